/-! ===== the property in numbers: sums ===== -/
section Ma
theorem sumT_add {f g : Nat → Int32} : ∀ n, sumT (fun x => f x + g x) n = sumT f n + sumT g n
  | 0 => rfl
  | n + 1 => by
    show sumT (fun x => f x + g x) n + (f n + g n) = sumT f n + f n + (sumT g n + g n)
    rw [sumT_add n]
    grind
theorem sumT_sub {f g : Nat → Int32} : ∀ n, sumT (fun x => f x - g x) n = sumT f n - sumT g n
  | 0 => by
    show (0 : Int32) = 0 - 0
    decide +kernel
  | n + 1 => by
    show sumT (fun x => f x - g x) n + (f n - g n) = sumT f n + f n - (sumT g n + g n)
    rw [sumT_sub n]
    grind
theorem sumT_cg {f g : Nat → Int32} : ∀ n, (∀ x, x < n → f x = g x) → sumT f n = sumT g n
  | 0, _ => rfl
  | n + 1, h => by
    show sumT f n + f n = sumT g n + g n
    rw [sumT_cg n (fun x hx => h x (by omega)), h n (Nat.lt_succ_self n)]
theorem sumT_0 : ∀ n, sumT (fun _ => 0) n = 0
  | 0 => rfl
  | n + 1 => by
    show sumT (fun _ => 0) n + 0 = 0
    rw [sumT_0 n]
    rfl
theorem sumT_one {c : Nat} {m : Int32} : ∀ n, sumT (fun x => if x = c then m else 0) n = if c < n then m else 0
  | 0 => rfl
  | n + 1 => by
    show sumT (fun x => if x = c then m else 0) n + (if n = c then m else 0) = _
    rw [sumT_one n]
    by_cases h1 : c < n
    · rw [if_pos h1, if_neg (by omega), if_pos (by omega), Int32.add_zero]
    · by_cases h2 : n = c
      · rw [if_neg h1, if_pos h2, if_pos (by omega), Int32.zero_add]
      · rw [if_neg h1, if_neg h2, if_neg (by omega), Int32.add_zero]
/-- one more line: what it does to each -/
theorem bal_1 {D C M : Nat → Int32} {n d c p : Nat} (hd : d < 8) (hc : c < 8) (hp : p < 8) (ed : D n = nI d) (ec : C n = nI c) (hdc : D n ≠ C n) : bal D C M (nI p) (n + 1) = bal D C M (nI p) n + ((if p = c then M n else 0) - (if p = d then M n else 0)) := by
  have hne : c ≠ d := fun q => hdc (by rw [ed, ec, q])
  show (if C n = nI p then _ else if D n = nI p then _ else _) = _
  rw [ed, ec]
  by_cases h1 : p = c
  · rw [if_pos h1, if_pos (by rw [h1]), if_neg (by omega), Int32.sub_zero]
  · have h1' : ¬ nI c = nI p := fun q => h1 (nI_e8 hc hp q).symm
    rw [if_neg h1, if_neg h1']
    by_cases h2 : p = d
    · rw [if_pos h2, if_pos (by rw [h2])]
      grind
    · have h2' : ¬ nI d = nI p := fun q => h2 (nI_e8 hd hp q).symm
      rw [if_neg h2, if_neg h2']
      grind
theorem bal_sum {D C M : Nat → Int32} : ∀ n, (∀ j, j < n → inP (D j) ∧ inP (C j) ∧ D j ≠ C j) → sumT (fun p => bal D C M (nI p) n) 8 = 0
  | 0, _ => sumT_0 8
  | n + 1, h => by
    obtain ⟨h1, h2, h3⟩ := h n (Nat.lt_succ_self n)
    obtain ⟨d, hd, ed⟩ := inP_of h1
    obtain ⟨c, hc, ec⟩ := inP_of h2
    rw [sumT_cg 8 (fun p hp => bal_1 (M := M) hd hc hp ed ec h3), sumT_add, sumT_sub, sumT_one, sumT_one, if_pos hc, if_pos hd, bal_sum n (fun j hj => h j (by omega))]
    grind
theorem owe_1 {D C M : Nat → Int32} {n d c a b : Nat} (hd : d < 8) (hc : c < 8) (ha : a < 8) (hb : b < 8) (ed : D n = nI d) (ec : C n = nI c) : owe D C M (nI a) (nI b) (n + 1) = owe D C M (nI a) (nI b) n + (if a = d then (if b = c then M n else 0) else 0) := by
  show (if D n = nI a ∧ C n = nI b then _ else _) = _
  rw [ed, ec]
  by_cases h1 : a = d
  · by_cases h2 : b = c
    · rw [if_pos ⟨by rw [h1], by rw [h2]⟩, if_pos h1, if_pos h2]
    · rw [if_neg (fun q => h2 (nI_e8 hc hb q.2).symm), if_pos h1, if_neg h2, Int32.add_zero]
  · rw [if_neg (fun q => h1 (nI_e8 hd ha q.1).symm), if_neg h1, Int32.add_zero]
/-- what one has on a tablet is what is owed to him less what he owes -/
theorem bal_owe {D C M : Nat → Int32} {p : Nat} (hp : p < 8) : ∀ n, (∀ j, j < n → inP (D j) ∧ inP (C j) ∧ D j ≠ C j) → sumT (fun o => owe D C M (nI o) (nI p) n - owe D C M (nI p) (nI o) n) 8 = bal D C M (nI p) n
  | 0, _ => by
    show sumT (fun o => (0 : Int32) - 0) 8 = 0
    decide +kernel
  | n + 1, h => by
    obtain ⟨h1, h2, h3⟩ := h n (Nat.lt_succ_self n)
    obtain ⟨d, hd, ed⟩ := inP_of h1
    obtain ⟨c, hc, ec⟩ := inP_of h2
    have ih := bal_owe (D := D) (C := C) (M := M) hp n (fun j hj => h j (by omega))
    rw [bal_1 hd hc hp ed ec h3, ← ih, sumT_sub, sumT_sub, sumT_cg 8 (fun o ho => owe_1 (M := M) hd hc ho hp ed ec), sumT_cg 8 (fun o ho => owe_1 (M := M) hd hc hp ho ed ec), sumT_add, sumT_add, sumT_one, if_pos hd]
    by_cases z : p = d
    · rw [if_pos z, sumT_cg 8 (f := fun o => if p = d then (if o = c then M n else 0) else 0) (g := fun o => if o = c then M n else 0) (fun o _ => if_pos z), sumT_one, if_pos hc]
      grind
    · rw [if_neg z, sumT_cg 8 (f := fun o => if p = d then (if o = c then M n else 0) else 0) (g := fun o => 0) (fun o _ => if_neg z), sumT_0]
      grind
theorem wit_1 {M W : Nat → Int32} {n w p : Nat} (hw : w < 8) (hp : p < 8) (ew : W n = nI w) : wit M W (nI p) (n + 1) = wit M W (nI p) n + (if p = w then M n else 0) := by
  show (if W n = nI p then _ else _) = _
  rw [ew]
  by_cases h1 : p = w
  · rw [if_pos (by rw [h1]), if_pos h1]
  · rw [if_neg (fun q => h1 (nI_e8 hw hp q).symm), if_neg h1, Int32.add_zero]
end Ma
section Mb
variable {σ : Sg} {S : Int}
theorem its_eq (hR : RI σ) {p : Nat} (hp : p < 8) : ∀ T, T ≤ gT σ → sumT (fun o => gOw σ (nI o) (nI p) T - gOw σ (nI p) (nI o) T) 8 = balT σ (nI p) T
  | 0, _ => by
    show sumT (fun o => (0 : Int32) - 0) 8 = 0
    decide +kernel
  | T + 1, h => by
    have ih := its_eq hR hp T (by omega)
    have hb := bal_owe (D := gDD σ T) (C := gC σ T) (M := gM σ T) hp (gn σ T) (fun j hj => by
      obtain ⟨b1, b2, -, b3⟩ := hR.2.2.1 T j (by omega) hj
      exact ⟨b1, b2, b3⟩)
    rw [sumT_sub] at ih hb ⊢
    show sumT (fun o => gOw σ (nI o) (nI p) T + owe (gDD σ T) (gC σ T) (gM σ T) (nI o) (nI p) (gn σ T)) 8 - sumT (fun o => gOw σ (nI p) (nI o) T + owe (gDD σ T) (gC σ T) (gM σ T) (nI p) (nI o) (gn σ T)) 8 = balT σ (nI p) T + bal (gDD σ T) (gC σ T) (gM σ T) (nI p) (gn σ T)
    rw [sumT_add, sumT_add, ← ih, ← hb]
    grind
theorem balT_sum (hR : RI σ) : ∀ T, T ≤ gT σ → sumT (fun p => balT σ (nI p) T) 8 = 0
  | 0, _ => sumT_0 8
  | T + 1, h => by
    show sumT (fun p => balT σ (nI p) T + bal (gDD σ T) (gC σ T) (gM σ T) (nI p) (gn σ T)) 8 = 0
    rw [sumT_add, balT_sum hR T (by omega), bal_sum (gn σ T) (fun j hj => by
      obtain ⟨b1, b2, -, b3⟩ := hR.2.2.1 T j (by omega) hj
      exact ⟨b1, b2, b3⟩)]
    rfl
/-- what nobody witnesses who is there -/
def unl (σ : Sg) (t : Nat) : Nat → Int32
  | 0 => 0
  | l + 1 => unl σ t l + (if gth σ (gW σ t l).toNatClampNeg = 0 then gM σ t l else 0)
abbrev unT (σ : Sg) : Nat → Int32 := sumT (fun t => unl σ t (gn σ t))
theorem risk_1 (hR : RI σ) {t : Nat} (ht : t < gT σ) : ∀ n, n ≤ gn σ t → sumT (fun p => if gth σ p = 0 then 0 else wit (gM σ t) (gW σ t) (nI p) n) 8 + unl σ t n = sm (gM σ t) n
  | 0, _ => by
    show sumT (fun p => if gth σ p = 0 then 0 else (0 : Int32)) 8 + 0 = 0
    rw [sumT_cg 8 (g := fun _ => 0) (fun p _ => by split <;> rfl), sumT_0]
    rfl
  | n + 1, h => by
    obtain ⟨-, -, h3, -⟩ := hR.2.2.1 t n ht (by omega)
    obtain ⟨w, hw, ew⟩ := inP_of h3
    have ih := risk_1 hR ht n (by omega)
    have e1 : ∀ p, p < 8 → (if gth σ p = 0 then 0 else wit (gM σ t) (gW σ t) (nI p) (n + 1)) = (if gth σ p = 0 then 0 else wit (gM σ t) (gW σ t) (nI p) n) + (if p = w then (if gth σ w = 0 then 0 else gM σ t n) else 0) := fun p hp => by
      rw [wit_1 hw hp ew]
      by_cases z : p = w
      · rw [if_pos z, if_pos z, z]
        by_cases y : gth σ w = 0
        · rw [if_pos y, if_pos y, if_pos y, Int32.add_zero]
        · rw [if_neg y, if_neg y, if_neg y]
      · rw [if_neg z, if_neg z, Int32.add_zero, Int32.add_zero]
    rw [sumT_cg 8 e1, sumT_add, sumT_one, if_pos hw]
    show _ + (unl σ t n + (if gth σ (gW σ t n).toNatClampNeg = 0 then gM σ t n else 0)) = sm (gM σ t) n + gM σ t n
    rw [ew, nI_clamp (by omega), ← ih]
    by_cases y : gth σ w = 0
    · rw [if_pos y, if_pos y]
      grind
    · rw [if_neg y, if_neg y]
      grind
theorem risk_eq (hR : RI σ) : ∀ T, T ≤ gT σ → sumT (fun p => if gth σ p = 0 then 0 else gRk σ (nI p) T) 8 + unT σ T = gTo σ T
  | 0, _ => by
    show sumT (fun p => if gth σ p = 0 then 0 else (0 : Int32)) 8 + 0 = 0
    rw [sumT_cg 8 (g := fun _ => 0) (fun p _ => by split <;> rfl), sumT_0]
    rfl
  | T + 1, h => by
    have ih := risk_eq hR T (by omega)
    have h1 := risk_1 hR (t := T) (by omega) (gn σ T) (Nat.le_refl _)
    have e1 : ∀ p, p < 8 → (if gth σ p = 0 then 0 else gRk σ (nI p) (T + 1)) = (if gth σ p = 0 then 0 else gRk σ (nI p) T) + (if gth σ p = 0 then 0 else wit (gM σ T) (gW σ T) (nI p) (gn σ T)) := fun p _ => by
      by_cases z : gth σ p = 0
      · rw [if_pos z, if_pos z, if_pos z, Int32.add_zero]
      · rw [if_neg z, if_neg z, if_neg z]
        rfl
    rw [sumT_cg 8 e1, sumT_add]
    show _ + (unT σ T + unl σ T (gn σ T)) = gTo σ T + sm (gM σ T) (gn σ T)
    rw [← ih, ← h1]
    grind
-- no sum overflows
theorem wit_b {M W : Nat → Int32} {p : Int32} : ∀ n, (∀ j, j < n → 0 < (M j).toInt) → smM M n ≤ 1000000 → 0 ≤ (wit M W p n).toInt ∧ (wit M W p n).toInt ≤ smM M n
  | 0, _, _ => ⟨by show 0 ≤ (0 : Int32).toInt; decide +kernel, by show (0 : Int32).toInt ≤ 0; decide +kernel⟩
  | n + 1, h, hs => by
    have hs : smM M n + (M n).toInt ≤ 1000000 := hs
    have hn := h n (Nat.lt_succ_self n)
    obtain ⟨i1, i2⟩ := wit_b (W := W) (p := p) n (fun j hj => h j (by omega)) (by omega)
    show 0 ≤ (if W n = p then wit M W p n + M n else wit M W p n).toInt ∧ (if W n = p then wit M W p n + M n else wit M W p n).toInt ≤ smM M n + (M n).toInt
    split
    · rw [t_add (by omega) (by omega)]
      omega
    · omega
theorem gRk_b (hA : Am σ S) (hS : S ≤ 1000000) (h0 : 0 ≤ S) (h8 : gT σ ≤ 8) {p : Int32} : ∀ T, T ≤ gT σ → 0 ≤ (gRk σ p T).toInt ∧ (gRk σ p T).toInt ≤ T * 1000000
  | 0, _ => ⟨by show 0 ≤ (0 : Int32).toInt; decide +kernel, by show (0 : Int32).toInt ≤ _; decide +kernel⟩
  | T + 1, h => by
    obtain ⟨i1, i2⟩ := gRk_b hA hS h0 h8 (p := p) T (by omega)
    obtain ⟨a1, a2⟩ := hA T (by omega)
    obtain ⟨j1, j2⟩ := wit_b (W := gW σ T) (p := p) (gn σ T) a1 (by omega)
    show 0 ≤ (gRk σ p T + wit (gM σ T) (gW σ T) p (gn σ T)).toInt ∧ (gRk σ p T + wit (gM σ T) (gW σ T) p (gn σ T)).toInt ≤ ((T + 1 : Nat) : Int) * 1000000
    rw [t_add (by omega) (by omega)]
    omega
theorem owe_b {D C M : Nat → Int32} {p q : Int32} : ∀ n, (∀ j, j < n → 0 < (M j).toInt) → smM M n ≤ 1000000 → 0 ≤ (owe D C M p q n).toInt ∧ (owe D C M p q n).toInt ≤ smM M n ∧ (0 < (owe D C M p q n).toInt ↔ ∃ l, l < n ∧ D l = p ∧ C l = q)
  | 0, _, _ => ⟨by show 0 ≤ (0 : Int32).toInt; decide +kernel, by show (0 : Int32).toInt ≤ 0; decide +kernel, fun h => absurd h (by show ¬ 0 < (0 : Int32).toInt; decide +kernel), fun ⟨l, hl, _⟩ => absurd hl (Nat.not_lt_zero l)⟩
  | n + 1, h, hs => by
    have hs : smM M n + (M n).toInt ≤ 1000000 := hs
    have hn := h n (Nat.lt_succ_self n)
    obtain ⟨i1, i2, i3⟩ := owe_b (D := D) (C := C) (p := p) (q := q) n (fun j hj => h j (by omega)) (by omega)
    show 0 ≤ (if D n = p ∧ C n = q then owe D C M p q n + M n else owe D C M p q n).toInt ∧ (if D n = p ∧ C n = q then owe D C M p q n + M n else owe D C M p q n).toInt ≤ smM M n + (M n).toInt ∧ (0 < (if D n = p ∧ C n = q then owe D C M p q n + M n else owe D C M p q n).toInt ↔ _)
    by_cases z : D n = p ∧ C n = q
    · rw [if_pos z, t_add (by omega) (by omega)]
      exact ⟨by omega, by omega, fun _ => ⟨n, Nat.lt_succ_self n, z⟩, fun _ => by omega⟩
    · rw [if_neg z]
      refine ⟨i1, by omega, fun y => ?_, fun ⟨l, hl, y⟩ => ?_⟩
      · obtain ⟨l, hl, y⟩ := i3.mp y
        exact ⟨l, by omega, y⟩
      · refine i3.mpr ⟨l, ?_, y⟩
        by_cases e : l = n
        · rw [e] at y
          exact absurd y z
        · omega
theorem gOw_b (hA : Am σ S) (hS : S ≤ 1000000) (h0 : 0 ≤ S) (h8 : gT σ ≤ 8) {p q : Int32} : ∀ T, T ≤ gT σ → 0 ≤ (gOw σ p q T).toInt ∧ (gOw σ p q T).toInt ≤ T * 1000000 ∧ (0 < (gOw σ p q T).toInt ↔ ∃ t l, t < T ∧ l < gn σ t ∧ gDD σ t l = p ∧ gC σ t l = q)
  | 0, _ => ⟨by show 0 ≤ (0 : Int32).toInt; decide +kernel, by show (0 : Int32).toInt ≤ _; decide +kernel, fun h => absurd h (by show ¬ 0 < (0 : Int32).toInt; decide +kernel), fun ⟨t, l, ht, _⟩ => absurd ht (Nat.not_lt_zero t)⟩
  | T + 1, h => by
    obtain ⟨i1, i2, i3⟩ := gOw_b hA hS h0 h8 (p := p) (q := q) T (by omega)
    obtain ⟨a1, a2⟩ := hA T (by omega)
    obtain ⟨j1, j2, j3⟩ := owe_b (D := gDD σ T) (C := gC σ T) (p := p) (q := q) (gn σ T) a1 (by omega)
    show 0 ≤ (gOw σ p q T + owe (gDD σ T) (gC σ T) (gM σ T) p q (gn σ T)).toInt ∧ (gOw σ p q T + owe (gDD σ T) (gC σ T) (gM σ T) p q (gn σ T)).toInt ≤ ((T + 1 : Nat) : Int) * 1000000 ∧ (0 < (gOw σ p q T + owe (gDD σ T) (gC σ T) (gM σ T) p q (gn σ T)).toInt ↔ _)
    rw [t_add (by omega) (by omega)]
    refine ⟨by omega, by omega, fun y => ?_, fun ⟨t, l, ht, hl, y⟩ => ?_⟩
    · by_cases z : 0 < (gOw σ p q T).toInt
      · obtain ⟨t, l, ht, y⟩ := i3.mp z
        exact ⟨t, l, by omega, y⟩
      · obtain ⟨l, hl, y⟩ := j3.mp (by omega)
        exact ⟨T, l, Nat.lt_succ_self T, hl, y⟩
    · by_cases e : t = T
      · rw [e] at hl y
        have := j3.mpr ⟨l, hl, y⟩
        omega
      · have := i3.mpr ⟨t, l, by omega, hl, y⟩
        omega
theorem gOw_Ed (hA : Am σ S) (hS : S ≤ 1000000) (h0 : 0 ≤ S) (h8 : gT σ ≤ 8) {p q : Nat} : ¬ gOw σ (nI p) (nI q) (gT σ) = 0 ↔ Ed σ p q := by
  obtain ⟨i1, i2, i3⟩ := gOw_b hA hS h0 h8 (p := nI p) (q := nI q) (gT σ) (Nat.le_refl _)
  refine Iff.trans ⟨fun z => ?_, fun z e => ?_⟩ i3
  · have : (gOw σ (nI p) (nI q) (gT σ)).toInt ≠ 0 := fun e => z (Int32.toInt_inj.mp (e.trans t_0.symm))
    omega
  · rw [e, t_0] at z
    omega
end Mb
