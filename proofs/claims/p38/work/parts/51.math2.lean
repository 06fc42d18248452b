/-! ===== the property in numbers: counts, smoothing, melting ===== -/
/-- how many below n -/
def cb (f : Nat → Bool) : Nat → Nat
  | 0 => 0
  | n + 1 => cb f n + (if f n = true then 1 else 0)
theorem cb_le {f : Nat → Bool} : ∀ n, cb f n ≤ n
  | 0 => Nat.le_refl _
  | n + 1 => by
    have := cb_le (f := f) n
    show cb f n + _ ≤ n + 1
    split <;> omega
theorem cb_mono {f g : Nat → Bool} : ∀ n, (∀ q, q < n → f q = true → g q = true) → cb f n ≤ cb g n
  | 0, _ => Nat.le_refl _
  | n + 1, h => by
    have ih := cb_mono n (fun q hq => h q (by omega))
    have hn := h n (Nat.lt_succ_self n)
    show cb f n + _ ≤ cb g n + _
    by_cases z : f n = true
    · rw [if_pos z, if_pos (hn z)]
      omega
    · rw [if_neg z]
      split <;> omega
theorem cb_add {f g : Nat → Bool} {p : Nat} : ∀ n, (∀ q, q < n → f q = true → g q = true ∨ q = p) → cb f n ≤ cb g n + (if p < n then 1 else 0)
  | 0, _ => Nat.zero_le _
  | n + 1, h => by
    have ih := cb_add (p := p) n (fun q hq => h q (by omega))
    have hn := h n (Nat.lt_succ_self n)
    show cb f n + _ ≤ cb g n + _ + _
    by_cases e : n = p
    · rw [if_neg (show ¬ p < n by omega)] at ih
      rw [if_pos (show p < n + 1 by omega)]
      split <;> split <;> omega
    · have ep : (if p < n + 1 then 1 else 0) = (if p < n then 1 else 0) := by
        by_cases y : p < n
        · rw [if_pos y, if_pos (by omega)]
        · rw [if_neg y, if_neg (by omega)]
      rw [ep]
      by_cases z : f n = true
      · rw [if_pos z, if_pos ((hn z).resolve_right e)]
        omega
      · rw [if_neg z]
        split <;> omega
theorem cb_pos {f : Nat → Bool} : ∀ n, 0 < cb f n ↔ ∃ q, q < n ∧ f q = true
  | 0 => ⟨fun h => absurd h (Nat.lt_irrefl 0), fun ⟨q, hq, _⟩ => absurd hq (Nat.not_lt_zero q)⟩
  | n + 1 => by
    have ih := cb_pos (f := f) n
    show 0 < cb f n + _ ↔ _
    by_cases z : f n = true
    · rw [if_pos z]
      exact ⟨fun _ => ⟨n, Nat.lt_succ_self n, z⟩, fun _ => by omega⟩
    · rw [if_neg z, Nat.add_zero]
      refine ⟨fun h => ?_, fun ⟨q, hq, y⟩ => ih.mpr ⟨q, ?_, y⟩⟩
      · obtain ⟨q, hq, y⟩ := ih.mp h
        exact ⟨q, by omega, y⟩
      · by_cases e : q = n
        · rw [e] at y
          exact absurd y z
        · omega
theorem cb_lt {f : Nat → Bool} {p : Nat} (hf : f p = false) : ∀ n, cb f n ≤ n - (if p < n then 1 else 0)
  | 0 => Nat.zero_le _
  | n + 1 => by
    have ih := cb_lt hf n
    show cb f n + _ ≤ _
    by_cases e : n = p
    · rw [e, if_neg (by rw [hf]; decide), if_pos (by omega)]
      rw [if_neg (by omega), e] at ih
      omega
    · by_cases y : p < n
      · rw [if_pos y] at ih
        rw [if_pos (show p < n + 1 by omega)]
        split <;> omega
      · rw [if_neg (show ¬ p < n + 1 by omega)]
        split <;> omega
section Mc
variable {σ : Sg} {S : Int}
def alf (σ : Sg) (p : Nat) : Nat → Bool := fun q => decide (¬ q = p ∧ (whV 8 (R0 σ) p >>> (nI q &&& 31)) &&& 1 = 1)
/-- how many one gets to along lines -/
abbrev aln (σ : Sg) (p : Nat) : Nat := cb (alf σ p) 8
theorem cntB_cb (its : Int32) (p : Nat) : ∀ n, n < 100 → cntB its p n = nI (cb (fun q => decide (¬ q = p ∧ (its >>> (nI q &&& 31)) &&& 1 = 1)) n)
  | 0, _ => rfl
  | n + 1, h => by
    show cntB its p n + _ = nI (cb _ n + _)
    rw [cntB_cb its p n (by omega)]
    by_cases z : ¬ n = p ∧ (its >>> (nI n &&& 31)) &&& 1 = 1
    · rw [if_pos z, if_pos (decide_eq_true z), nI_1]
    · rw [if_neg z, if_neg (by rw [decide_eq_true_eq]; exact z), Int32.add_zero, Nat.add_zero]
theorem gOA_aln (hR : RI σ) {p : Nat} (hp : p < 8) : gOA σ (nI p) = nI (aln σ p) := by
  have hlo : lo (whV 8 (R0 σ) p) := wV_lo (fun p => R0_lo (LnP_of hR) p) 8 p
  obtain ⟨m, hm, em⟩ := hlo
  unfold gOA
  rw [nI_clamp (show p < 2 ^ 31 by omega), em]
  have h := bc_cnt ⟨m, hm⟩ ⟨p, hp⟩
  have h : bcf (nI m &&& (1 <<< (nI p &&& 31) ^^^ -1)) = cntB (nI m) p 8 := h
  rw [h, cntB_cb _ _ 8 (by decide)]
  unfold aln alf
  rw [em]
theorem alf_iff (hR : RI σ) {p q : Nat} (hp : p < 8) (hq : q < 8) : alf σ p q = true ↔ ¬ q = p ∧ Rch σ p q := by
  unfold alf
  rw [decide_eq_true_eq]
  exact ⟨fun z => ⟨z.1, (wV_bt (LnP_of hR) hp hq).mp z.2⟩, fun z => ⟨z.1, (wV_bt (LnP_of hR) hp hq).mpr z.2⟩⟩
theorem aln_7 {p : Nat} (hp : p < 8) : aln σ p ≤ 7 := by
  have h := cb_lt (f := alf σ p) (p := p) (by unfold alf; rw [decide_eq_false_iff_not]; exact fun z => z.1 rfl) 8
  rw [if_pos hp] at h
  exact h
theorem Ed_ne (hR : RI σ) {p o : Nat} (h : Ed σ p o) : ¬ o = p := by
  obtain ⟨t, l, ht, hl, e1, e2⟩ := h
  intro e
  obtain ⟨-, -, -, h4⟩ := hR.2.2.1 t l ht hl
  exact h4 (by rw [e1, e2, e])
theorem Ed_Rch {p o : Nat} (ho : o < 8) (h : Ed σ p o) : Rch σ p o := fun P a _ => a o ho h
/-- whom one gets to, one gets to along a first line -/
theorem Rch_Ed {p q : Nat} (h : Rch σ p q) : ∃ o, o < 8 ∧ Ed σ p o :=
  h (fun _ => ∃ o, o < 8 ∧ Ed σ p o) (fun r hr e => ⟨r, hr, e⟩) (fun a b _ _ h _ => h)
def dif (σ : Sg) (p : Nat) : Nat → Bool := fun o => decide (¬ gOw σ (nI p) (nI o) (gT σ) = 0)
abbrev dct (σ : Sg) (p : Nat) : Nat → Nat := cb (dif σ p)
theorem dif_iff (hA : Am σ S) (hS : S ≤ 1000000) (h0 : 0 ≤ S) (h8 : gT σ ≤ 8) {p o : Nat} : dif σ p o = true ↔ Ed σ p o := by
  unfold dif
  rw [decide_eq_true_eq]
  exact gOw_Ed hA hS h0 h8
theorem dct_aln (hR : RI σ) (hA : Am σ S) (hS : S ≤ 1000000) (h0 : 0 ≤ S) (h8 : gT σ ≤ 8) {p : Nat} (hp : p < 8) : dct σ p 8 ≤ aln σ p :=
  cb_mono 8 fun q hq z => by
    have e := (dif_iff hA hS h0 h8).mp z
    exact (alf_iff hR hp hq).mpr ⟨Ed_ne hR e, Ed_Rch hq e⟩
theorem aln_0 (hR : RI σ) (hA : Am σ S) (hS : S ≤ 1000000) (h0 : 0 ≤ S) (h8 : gT σ ≤ 8) {p : Nat} (hp : p < 8) : aln σ p = 0 ↔ dct σ p 8 = 0 := by
  have h1 := dct_aln hR hA hS h0 h8 hp
  refine ⟨fun z => by omega, fun z => ?_⟩
  refine Nat.eq_zero_of_not_pos fun y => ?_
  obtain ⟨q, hq, w⟩ := (cb_pos 8).mp y
  obtain ⟨o, ho, e⟩ := Rch_Ed ((alf_iff hR hp hq).mp w).2
  have w2 := (cb_pos (f := dif σ p) 8).mpr ⟨o, ho, (dif_iff hA hS h0 h8).mpr e⟩
  have z : cb (dif σ p) 8 = 0 := z
  omega
theorem aln_1 (hR : RI σ) {p o : Nat} (hp : p < 8) (ho : o < 8) (h : Ed σ p o) : aln σ o ≤ aln σ p + 1 := by
  have h1 := cb_add (f := alf σ o) (g := alf σ p) (p := p) 8 (fun q hq z => by
    by_cases e : q = p
    · exact Or.inr e
    · exact Or.inl ((alf_iff hR hp hq).mpr ⟨e, (Ed_Rch ho h).tr ho ((alf_iff hR ho hq).mp z).2⟩))
  rw [if_pos hp] at h1
  exact h1
theorem rnd_ex {w : Nat → Int32} : ∀ f i, ¬ rnd w f i = 0 → ∃ j, i ≤ j ∧ j < i + f ∧ hB (w j) j
  | 0, i, h => absurd rfl h
  | f + 1, i, h => by
    unfold rnd at h
    by_cases z : hB (w i) i
    · exact ⟨i, Nat.le_refl _, by omega, z⟩
    · rw [if_neg z] at h
      obtain ⟨j, h1, h2, h3⟩ := rnd_ex f (i + 1) h
      exact ⟨j, by omega, by omega, h3⟩
/-- a round: somebody gets to somebody -/
theorem rnd_aln (hR : RI σ) (h : ¬ rnd (whV 8 (R0 σ)) 8 0 = 0) : ∃ p, p < 8 ∧ 0 < aln σ p := by
  obtain ⟨j, -, h2, h3⟩ := rnd_ex 8 0 h
  have hj : j < 8 := by omega
  have hr := (wV_bt (LnP_of hR) hj hj).mp (hB_bt.mp h3)
  obtain ⟨o, ho, e⟩ := Rch_Ed hr
  exact ⟨j, hj, (cb_pos 8).mpr ⟨o, ho, (alf_iff hR hj ho).mpr ⟨Ed_ne hR e, Ed_Rch ho e⟩⟩⟩
/-- a line: somebody gets to somebody; and the other way -/
theorem any_aln (hR : RI σ) : (∃ t, t < gT σ ∧ 0 < gn σ t) ↔ ∃ p, p < 8 ∧ 0 < aln σ p := by
  refine ⟨fun ⟨t, ht, h⟩ => ?_, fun ⟨p, hp, h⟩ => ?_⟩
  · obtain ⟨l1, l2, -, -⟩ := hR.2.2.1 t 0 ht h
    obtain ⟨d, hd, ed⟩ := inP_of l1
    obtain ⟨c, hc, ec⟩ := inP_of l2
    have e : Ed σ d c := ⟨t, 0, ht, h, ed, ec⟩
    exact ⟨d, hd, (cb_pos 8).mpr ⟨c, hc, (alf_iff hR hd hc).mpr ⟨Ed_ne hR e, Ed_Rch hc e⟩⟩⟩
  · obtain ⟨q, hq, w⟩ := (cb_pos 8).mp h
    obtain ⟨o, ho, t, l, ht, hl, -⟩ := Rch_Ed ((alf_iff hR hp hq).mp w).2
    exact ⟨t, ht, by omega⟩
-- smoothing leaves seven at the most, none just if all have 0
theorem sI_le2 {f : Nat → Int} {d c : Nat} (hdc : d ≠ c) (n : Nat) (h : ∀ q, q < n → 0 ≤ f q) (hd : d < n) (hc : c < n) : f d + f c ≤ sI f n := by
  have h1 := sI_1 (f := f) (g := fun q => if q = d then 0 else f q) (d := d) n (fun q _ hq => if_neg hq)
  rw [if_pos hd] at h1
  have h2 := sI_le1 (f := fun q => if q = d then 0 else f q) n (fun q hq => by
    show 0 ≤ if q = d then 0 else f q
    split
    · exact Int.le_refl _
    · exact h q hq) hc
  have h2 : (if c = d then 0 else f c) ≤ sI (fun q => if q = d then 0 else f q) n := h2
  rw [if_neg (Ne.symm hdc)] at h2
  have h1 : sI (fun q => if q = d then 0 else f q) n = sI f n + ((if d = d then 0 else f d) - f d) := h1
  rw [if_pos rfl] at h1
  omega
theorem pr_7 {th : Nat → Int32} : ∀ (f : Nat) (S : Int) (b : Nat → Int32), okB S b → S ≤ 1073741824 → (pr th f b).2 = 0 ∨ ((pr th f b).2 : Int) + 1 ≤ sI (fun q => nzI (b q).toInt) 8
  | 0, _, _, _, _ => Or.inl rfl
  | f + 1, S, b, h, hS => by
    unfold pr
    by_cases hn : b (pmin b 7) < 0
    · rw [if_pos hn]
      cases hw : wf th (pmin b 7) (pmax b 7) 8 0 with
      | none => exact Or.inl rfl
      | some w =>
        obtain ⟨hdc, hap, hB', hnz⟩ := h.st hS hn
        have h2 : 2 ≤ sI (fun q => nzI (b q).toInt) 8 := by
          have d7 := pmin_le b 7
          have c7 := pmax_le b 7
          have h3 := sI_le2 (f := fun q => nzI (b q).toInt) hdc 8 (fun q _ => nz_nn _) (by omega) (by omega)
          have h3 : nzI (b (pmin b 7)).toInt + nzI (b (pmax b 7)).toInt ≤ sI (fun q => nzI (b q).toInt) 8 := h3
          have n1 := Int32.lt_iff_toInt_lt.mp hn
          rw [t_0] at n1
          have n2 : 0 < (b (pmax b 7)).toInt := by
            refine Int.not_le.mp fun q => ?_
            have hall : ∀ p, p < 8 → (b p).toInt ≤ 0 := fun p hp => Int.le_trans (pmax_T b 7 p (by omega)) q
            have s0 := sI_nn (f := fun q => -(b q).toInt) 8 (fun q hq => by
              have := hall q hq
              show 0 ≤ -(b q).toInt
              omega)
            have s1 := sI_le1 (f := fun q => -(b q).toInt) (d := pmin b 7) 8 (fun q hq => by
              have := hall q hq
              show 0 ≤ -(b q).toInt
              omega) (by omega)
            have s2 := sI_sub (f := fun _ => 0) (g := fun q => (b q).toInt) 8
            have s3 : sI (fun q => (0 : Int) - (b q).toInt) 8 = sI (fun q => -(b q).toInt) 8 := sI_cg 8 (fun q _ => by omega)
            have s4 : sI (fun _ => (0 : Int)) 8 = 0 := rfl
            have s5 := h.1
            have s1 : -(b (pmin b 7)).toInt ≤ sI (fun q => -(b q).toInt) 8 := s1
            omega
          rw [nz_1 (by omega), nz_1 (by omega)] at h3
          omega
        refine Or.inr ?_
        show (((pr th f (pb2 b (pmin b 7) (pmax b 7))).2 + 1 : Nat) : Int) + 1 ≤ _
        rcases pr_7 (th := th) f _ _ hB' (by omega) with z | z
        · omega
        · omega
    · rw [if_neg hn]
      exact Or.inl rfl
theorem lf_7 (hR : RI σ) (hA : Am σ S) (hS : S ≤ 1000000) {t : Nat} (ht : t < gT σ) : lf σ t = -1 ∨ ∃ k, k ≤ 7 ∧ lf σ t = nI k := by
  have hB := ok_of hR hA (by omega) ht
  have hs := (hA t ht).2
  unfold lf
  split
  · refine Or.inr ⟨_, ?_, rfl⟩
    have h8 := nz8 (gbal σ t) 8
    rcases pr_7 (th := gth σ) 8 _ _ hB (by omega) with z | z
    · omega
    · omega
  · exact Or.inl rfl
theorem lf_0 (hR : RI σ) (hA : Am σ S) (hS : S ≤ 1000000) {t : Nat} (ht : t < gT σ) : lf σ t = 0 ↔ ∀ p, p < 8 → gbal σ t p = 0 := by
  have hB := ok_of hR hA (by omega) ht
  have hs := (hA t ht).2
  by_cases hn : gbal σ t (pmin (gbal σ t) 7) < 0
  · refine ⟨fun z => ?_, fun z => ?_⟩
    · exfalso
      unfold lf at z
      split at z
      · next y =>
        have h7 : (pr (gth σ) 8 (gbal σ t)).2 ≤ 8 := pr_le 8 _
        have e0 : (pr (gth σ) 8 (gbal σ t)).2 = 0 := nI_e (by omega) (by decide) z
        unfold pr at e0 y
        rw [if_pos hn] at e0 y
        cases hw : wf (gth σ) (pmin (gbal σ t) 7) (pmax (gbal σ t) 7) 8 0 with
        | none =>
          rw [hw] at y
          cases y
        | some w =>
          rw [hw] at e0
          exact absurd e0 (Nat.succ_ne_zero _)
      · exact absurd z (by decide +kernel)
    · have p7 := pmin_le (gbal σ t) 7
      rw [z _ (by omega)] at hn
      exact absurd hn (by decide +kernel)
  · refine ⟨fun _ => hB.zero hn, fun _ => ?_⟩
    unfold lf pr
    rw [if_neg hn]
    rfl
-- melting
theorem ytm_k {t : Nat} : ∀ f k, k + f ≤ 10 → (ytm σ t f k = -1 ∨ (∃ m, k < m ∧ m ≤ 10 ∧ ytm σ t f k = nI m ∧ gce σ t = 0))
  | 0, k, _ => Or.inl rfl
  | f + 1, k, h => by
    unfold ytm
    by_cases z : gce σ t = 0 ∧ gha σ t < heatAt σ k
    · rw [if_pos z]
      exact Or.inr ⟨k + 1, by omega, by omega, rfl, z.1⟩
    · rw [if_neg z]
      rcases ytm_k f (k + 1) (by omega) with y | ⟨m, m1, m2, m3⟩
      · exact Or.inl y
      · exact Or.inr ⟨m, by omega, m2, m3⟩
theorem ytm_1 {t : Nat} : ytm σ t 10 0 = nI 1 ↔ mlt σ t := by
  unfold ytm
  by_cases z : gce σ t = 0 ∧ gha σ t < heatAt σ 0
  · rw [if_pos z]
    exact ⟨fun _ => z, fun _ => rfl⟩
  · rw [if_neg z]
    refine ⟨fun y => ?_, fun y => absurd y z⟩
    rcases ytm_k (σ := σ) (t := t) 9 (0 + 1) (by omega) with w | ⟨m, m1, m2, m3, -⟩
    · rw [w] at y
      exact absurd y (by decide +kernel)
    · rw [m3] at y
      have := nI_e (by omega) (by decide) y
      omega
theorem gMl_1 {t : Nat} : gMl σ (nI 1) t = if mlt σ t then sm (gM σ t) (gn σ t) else 0 := by
  unfold gMl
  rcases ytm_k (σ := σ) (t := t) 10 0 (by omega) with w | ⟨m, m1, m2, m3, -⟩
  · have hm : ¬ mlt σ t := fun z => by
      rw [ytm_1.mpr z] at w
      exact absurd w (by decide +kernel)
    rw [if_pos w, if_neg hm]
  · have hne : ¬ ytm σ t 10 0 = -1 := by
      rw [m3]
      intro e
      have e2 := congrArg Int32.toInt e
      rw [nI_toInt (by omega)] at e2
      have : (-1 : Int32).toInt = -1 := by decide +kernel
      omega
    rw [if_neg hne]
    by_cases z : mlt σ t
    · rw [if_pos z, ytm_1.mpr z, if_neg (fun q => by
        have := (nI_ltI (a := 1) (b := 1) (by decide) (by decide)).mp q
        omega)]
    · have hm1 : m ≠ 1 := fun e => z (ytm_1.mp (by rw [m3, e]))
      rw [if_neg z, m3, if_pos ((nI_ltI (a := 1) (b := m) (by decide) (by omega)).mpr (by omega))]
/-- a year: what goes -/
theorem yr_lines : ∀ T, T ≤ gT σ → gLn (sPass σ 1) T = gLn σ T - gon σ T
  | 0, _ => by
    show (0 : Int32) = 0 - 0
    decide +kernel
  | T + 1, h => by
    have ih := yr_lines T (by omega)
    show gLn (sPass σ 1) T + nI (if T < gT σ ∧ mlt σ T then 0 else gn σ T) = gLn σ T + nI (gn σ T) - (gon σ T + (if mlt σ T then nI (gn σ T) else 0))
    rw [ih]
    by_cases z : mlt σ T
    · rw [if_pos z, if_pos ⟨by omega, z⟩, show nI 0 = (0 : Int32) from rfl]
      grind
    · rw [if_neg z, if_neg (fun q => z q.2)]
      grind
theorem yr_total : ∀ T, T ≤ gT σ → gTo (sPass σ 1) T = gTo σ T - gMI σ (nI 1) T
  | 0, _ => by
    show (0 : Int32) = 0 - 0
    decide +kernel
  | T + 1, h => by
    have ih := yr_total T (by omega)
    show gTo (sPass σ 1) T + sm (gM σ T) (if T < gT σ ∧ mlt σ T then 0 else gn σ T) = gTo σ T + sm (gM σ T) (gn σ T) - (gMI σ (nI 1) T + gMl σ (nI 1) T)
    rw [ih, gMl_1]
    by_cases z : mlt σ T
    · rw [if_pos z, if_pos ⟨by omega, z⟩, show sm (gM σ T) 0 = (0 : Int32) from rfl]
      grind
    · rw [if_neg z, if_neg (fun q => z q.2)]
      grind
end Mc
