/-! ===== bits below 8; who is reached ===== -/
abbrev bt (x : Int32) (q : Nat) : Prop := (x >>> (nI q &&& 31)) &&& 1 = 1
theorem and1_01 (a : Int32) : a &&& 1 = 0 ∨ a &&& 1 = 1 := by
  rw [pk_and a (m := 1) 1 (by decide +kernel)]
  have : a.toBitVec.toNat % 2 ^ 1 = 0 ∨ a.toBitVec.toNat % 2 ^ 1 = 1 := by omega
  rcases this with h | h
  · rw [h]
    exact Or.inl (by decide +kernel)
  · rw [h]
    exact Or.inr (by decide +kernel)
theorem hB_bt {x : Int32} {q : Nat} : hB x q ↔ bt x q := by
  rcases and1_01 (x >>> (nI q &&& 31)) with h | h
  · exact ⟨fun z => absurd h z, fun z => absurd (h.symm.trans z) (by decide)⟩
  · exact ⟨fun _ => h, fun _ z => absurd (z.symm.trans h) (by decide)⟩
theorem or_and1 (a b : Int32) : (a ||| b) &&& 1 = (a &&& 1) ||| (b &&& 1) := by
  apply Int32.toBitVec_inj.mp
  rw [Int32.toBitVec_and, Int32.toBitVec_or, Int32.toBitVec_or, Int32.toBitVec_and, Int32.toBitVec_and]
  ext i hi
  simp only [BitVec.getElem_and, BitVec.getElem_or]
  generalize a.toBitVec[i] = x
  generalize b.toBitVec[i] = y
  generalize (1 : Int32).toBitVec[i] = z
  revert x y z
  decide
theorem bt_or {x y : Int32} {q : Nat} : bt (x ||| y) q ↔ bt x q ∨ bt y q := by
  unfold bt
  rw [Int32.shiftRight_or, or_and1]
  rcases and1_01 (x >>> (nI q &&& 31)) with h | h <;> rcases and1_01 (y >>> (nI q &&& 31)) with g | g <;> rw [h, g] <;> decide
theorem bit_pq : ∀ p q : Fin 8, ((1 <<< (nI p.val &&& 31)) >>> (nI q.val &&& 31) : Int32) &&& 1 = if q = p then 1 else 0 := by decide +kernel
theorem bt_one {p q : Nat} (hp : p < 8) (hq : q < 8) : bt (1 <<< (nI p &&& 31)) q ↔ q = p := by
  have := bit_pq ⟨p, hp⟩ ⟨q, hq⟩
  simp only [Fin.mk.injEq] at this
  unfold bt
  rw [this]
  by_cases z : q = p
  · rw [if_pos z]
    exact ⟨fun _ => z, fun _ => rfl⟩
  · rw [if_neg z]
    exact ⟨fun h => absurd h (by decide), fun h => absurd h z⟩
theorem bt_z8 : ∀ q : Fin 8, ¬ bt 0 q.val := by decide +kernel
theorem bt_zero {q : Nat} (hq : q < 8) : ¬ bt 0 q := bt_z8 ⟨q, hq⟩
def lo (x : Int32) : Prop := ∃ m, m < 256 ∧ x = nI m
theorem lo_0 : lo 0 := ⟨0, by decide, by decide +kernel⟩
theorem lo_or {x y : Int32} (hx : lo x) (hy : lo y) : lo (x ||| y) := by
  obtain ⟨a, ha, rfl⟩ := hx
  obtain ⟨b, hb, rfl⟩ := hy
  have hab : a ||| b < 2 ^ 8 := Nat.or_lt_two_pow ha hb
  refine ⟨a ||| b, hab, ?_⟩
  apply Int32.toBitVec_inj.mp
  apply BitVec.eq_of_toNat_eq
  rw [Int32.toBitVec_or, BitVec.toNat_or, pk_tn (by omega), pk_tn (by omega), pk_tn (by omega)]
theorem lo_o8 : ∀ c : Fin 8, (1 <<< (nI c.val &&& 31) : Int32) = nI (2 ^ c.val) ∧ 2 ^ c.val < 256 := by decide +kernel
theorem lo_one {c : Nat} (hc : c < 8) : lo (1 <<< (nI c &&& 31)) := ⟨2 ^ c, (lo_o8 ⟨c, hc⟩).2, (lo_o8 ⟨c, hc⟩).1⟩
theorem bt_nI8 : ∀ m : Fin 256, ∀ q : Fin 8, bt (nI m.val) q.val ↔ m.val.testBit q.val = true := by decide +kernel
theorem lo_ext {x y : Int32} (hx : lo x) (hy : lo y) (e : ∀ q, q < 8 → (bt x q ↔ bt y q)) : x = y := by
  obtain ⟨a, ha, rfl⟩ := hx
  obtain ⟨b, hb, rfl⟩ := hy
  refine congrArg nI (Nat.eq_of_testBit_eq fun i => ?_)
  by_cases hi : i < 8
  · exact Bool.eq_iff_iff.mpr (((bt_nI8 ⟨a, ha⟩ ⟨i, hi⟩).symm.trans (e i hi)).trans (bt_nI8 ⟨b, hb⟩ ⟨i, hi⟩))
  · have h8 : 2 ^ 8 ≤ 2 ^ i := Nat.pow_le_pow_right (by decide) (by omega)
    rw [Nat.testBit_lt_two_pow (by omega), Nat.testBit_lt_two_pow (by omega)]
/-- how many bits below f -/
def cn (x : Int32) : Nat → Nat
  | 0 => 0
  | f + 1 => cn x f + if bt x f then 1 else 0
theorem cn_le (x : Int32) : ∀ f, cn x f ≤ f
  | 0 => Nat.le_refl _
  | f + 1 => by
    have := cn_le x f
    unfold cn
    split <;> omega
theorem cn_mono {x y : Int32} (h : ∀ q, q < 8 → bt x q → bt y q) : ∀ f, f ≤ 8 → cn x f ≤ cn y f
  | 0, _ => Nat.le_refl _
  | f + 1, hf => by
    have ih := cn_mono h f (by omega)
    unfold cn
    by_cases z : bt x f
    · rw [if_pos z, if_pos (h f (by omega) z)]
      omega
    · rw [if_neg z]
      split <;> omega
theorem cn_lt {x y : Int32} (h : ∀ q, q < 8 → bt x q → bt y q) {q : Nat} (hx : ¬ bt x q) (hy : bt y q) : ∀ f, f ≤ 8 → q < f → cn x f < cn y f
  | 0, _, hq => absurd hq (Nat.not_lt_zero q)
  | f + 1, hf, hq => by
    unfold cn
    by_cases e : q = f
    · have := cn_mono h f (by omega)
      rw [e] at hx hy
      rw [if_neg hx, if_pos hy]
      omega
    · have ih := cn_lt h hx hy f (by omega) (by omega)
      by_cases z : bt x f
      · rw [if_pos z, if_pos (h f (by omega) z)]
        omega
      · rw [if_neg z]
        split <;> omega
/-- lines are between persons -/
abbrev LnP (σ : Sg) : Prop := ∀ t l, t < gT σ → l < gn σ t → inP (gDD σ t l) ∧ inP (gC σ t l)
def Ed (σ : Sg) (p r : Nat) : Prop := ∃ t l, t < gT σ ∧ l < gn σ t ∧ gDD σ t l = nI p ∧ gC σ t l = nI r
section Rc
variable {σ : Sg}
theorem cb_lo {D C : Nat → Int32} {p : Int32} : ∀ n, (∀ l, l < n → inP (C l)) → lo (cbits D C p n)
  | 0, _ => lo_0
  | n + 1, h => by
    have ih := cb_lo (D := D) (C := C) (p := p) n (fun l hl => h l (by omega))
    obtain ⟨c, hc, ec⟩ := inP_of (h n (by omega))
    unfold cbits
    split
    · rw [ec]
      exact lo_or ih (lo_one hc)
    · exact ih
theorem cb_bt {D C : Nat → Int32} {p : Int32} {r : Nat} (hr : r < 8) : ∀ n, (∀ l, l < n → inP (C l)) → (bt (cbits D C p n) r ↔ ∃ l, l < n ∧ D l = p ∧ C l = nI r)
  | 0, _ => ⟨fun h => absurd h (bt_zero hr), fun ⟨l, hl, _⟩ => absurd hl (Nat.not_lt_zero l)⟩
  | n + 1, h => by
    have ih := cb_bt (D := D) (C := C) (p := p) hr n (fun l hl => h l (by omega))
    obtain ⟨c, hc, ec⟩ := inP_of (h n (by omega))
    unfold cbits
    by_cases z : D n = p
    · rw [if_pos z, bt_or, ih, ec, bt_one hc hr]
      constructor
      · rintro (⟨l, h1, h2, h3⟩ | rfl)
        · exact ⟨l, by omega, h2, h3⟩
        · exact ⟨n, by omega, z, ec⟩
      · rintro ⟨l, h1, h2, h3⟩
        by_cases e : l = n
        · rw [e, ec] at h3
          exact Or.inr (nI_e8 hr hc h3.symm)
        · exact Or.inl ⟨l, by omega, h2, h3⟩
    · rw [if_neg z, ih]
      constructor
      · rintro ⟨l, h1, h2, h3⟩
        exact ⟨l, by omega, h2, h3⟩
      · rintro ⟨l, h1, h2, h3⟩
        by_cases e : l = n
        · rw [e] at h2
          exact absurd h2 z
        · exact ⟨l, by omega, h2, h3⟩
theorem cT_lo (hL : LnP σ) {p : Int32} : ∀ T, T ≤ gT σ → lo (cbT σ p T)
  | 0, _ => lo_0
  | T + 1, h => lo_or (cT_lo hL T (by omega)) (cb_lo _ (fun l hl => (hL T l (by omega) hl).2))
theorem cT_bt (hL : LnP σ) {p r : Nat} (hr : r < 8) : ∀ T, T ≤ gT σ → (bt (cbT σ (nI p) T) r ↔ ∃ t l, t < T ∧ l < gn σ t ∧ gDD σ t l = nI p ∧ gC σ t l = nI r)
  | 0, _ => ⟨fun h => absurd h (bt_zero hr), fun ⟨t, l, ht, _⟩ => absurd ht (Nat.not_lt_zero t)⟩
  | T + 1, h => by
    have ih := cT_bt hL (p := p) hr T (by omega)
    unfold cbT
    rw [bt_or, ih, cb_bt hr _ (fun l hl => (hL T l (by omega) hl).2)]
    constructor
    · rintro (⟨t, l, h1, h2⟩ | ⟨l, h2⟩)
      · exact ⟨t, l, by omega, h2⟩
      · exact ⟨T, l, by omega, h2⟩
    · rintro ⟨t, l, h1, h2⟩
      by_cases e : t = T
      · rw [e] at h2
        exact Or.inr ⟨l, h2⟩
      · exact Or.inl ⟨t, l, by omega, h2⟩
theorem R0_bt (hL : LnP σ) {p r : Nat} (hr : r < 8) : bt (R0 σ p) r ↔ Ed σ p r := cT_bt hL hr (gT σ) (Nat.le_refl _)
theorem R0_lo (hL : LnP σ) (p : Nat) : lo (R0 σ p) := cT_lo hL (gT σ) (Nat.le_refl _)
/-- one gets from p to q along one line or more -/
def Rch (σ : Sg) (p q : Nat) : Prop := ∀ P : Nat → Prop, (∀ r, r < 8 → Ed σ p r → P r) → (∀ a b, a < 8 → b < 8 → P a → Ed σ a b → P b) → P q
-- Warshall
theorem whF_at {v : Nat} {r : Nat → Int32} : ∀ f p, whF v f r p = if p < f ∧ hB (r p) v then r p ||| r v else r p
  | 0, p => (if_neg (fun q => Nat.not_lt_zero p q.1)).symm
  | f + 1, p => by
    have hv : whF v f r v = r v := by
      rw [whF_at f v]
      split
      · exact Int32.or_self
      · rfl
    have hf : whF v f r f = r f := by
      rw [whF_at f f, if_neg (fun q => Nat.lt_irrefl f q.1)]
    unfold whF
    rw [hv, hf]
    by_cases e : p = f
    · subst e
      by_cases z : hB (r p) v
      · rw [if_pos z, upd_s, if_pos ⟨Nat.lt_succ_self p, z⟩]
      · rw [if_neg z, whF_at p p, if_neg (fun q => z q.2), if_neg (fun q => z q.2)]
    · have : (if hB (r f) v then upd (whF v f r) f (r f ||| r v) else whF v f r) p = whF v f r p := by
        split
        · exact upd_n e
        · rfl
      rw [this, whF_at f p]
      by_cases z : p < f ∧ hB (r p) v
      · rw [if_pos z, if_pos ⟨by omega, z.2⟩]
      · rw [if_neg z, if_neg (fun q => z ⟨by omega, q.2⟩)]
theorem wV_s {v p q : Nat} {r : Nat → Int32} (hp : p < 8) : bt (whV (v + 1) r p) q ↔ bt (whV v r p) q ∨ (bt (whV v r p) v ∧ bt (whV v r v) q) := by
  show bt (whF v 8 (whV v r) p) q ↔ _
  rw [whF_at]
  by_cases z : hB (whV v r p) v
  · rw [if_pos ⟨hp, z⟩, bt_or]
    exact ⟨fun h => h.imp id (fun g => ⟨hB_bt.mp z, g⟩), fun h => h.imp id (fun g => g.2)⟩
  · rw [if_neg (fun q => z q.2)]
    exact ⟨Or.inl, fun h => h.elim id (fun g => absurd (hB_bt.mpr g.1) z)⟩
theorem wV_lo {r : Nat → Int32} (h : ∀ p, lo (r p)) : ∀ v p, lo (whV v r p)
  | 0, p => h p
  | v + 1, p => by
    show lo (whF v 8 (whV v r) p)
    rw [whF_at]
    split
    · exact lo_or (wV_lo h v p) (wV_lo h v v)
    · exact wV_lo h v p
theorem Rch.tr {p v q : Nat} (h1 : Rch σ p v) (hv : v < 8) (h2 : Rch σ v q) : Rch σ p q := by
  intro P a b
  exact h2 P (fun r hr e => b v r hv hr (h1 P a b) e) b
theorem wV_R (hL : LnP σ) : ∀ v, v ≤ 8 → ∀ p q, p < 8 → q < 8 → bt (whV v (R0 σ) p) q → Rch σ p q
  | 0, _, p, q, hp, hq, h => fun P a _ => a q hq ((R0_bt hL hq).mp h)
  | v + 1, hv, p, q, hp, hq, h => by
    rcases (wV_s hp).mp h with h | ⟨h1, h2⟩
    · exact wV_R hL v (by omega) p q hp hq h
    · exact (wV_R hL v (by omega) p v hp (by omega) h1).tr (by omega) (wV_R hL v (by omega) v q (by omega) hq h2)
theorem wV_up {r : Nat → Int32} {p q : Nat} (hp : p < 8) (h : bt (r p) q) : ∀ v, bt (whV v r p) q
  | 0 => h
  | v + 1 => (wV_s hp).mpr (Or.inl (wV_up hp h v))
theorem wV_tr {r : Nat → Int32} : ∀ v, v ≤ 8 → ∀ a w b, a < 8 → w < v → b < 8 → bt (whV v r a) w → bt (whV v r w) b → bt (whV v r a) b
  | 0, _, _, w, _, _, hw, _, _, _ => absurd hw (Nat.not_lt_zero w)
  | v + 1, hv, a, w, b, ha, hw, hb, h1, h2 => by
    have v8 : v < 8 := by omega
    have w8 : w < 8 := by omega
    have ih := wV_tr (r := r) v (by omega)
    rw [wV_s ha] at h1 ⊢
    rw [wV_s w8] at h2
    by_cases e : w = v
    · subst e
      have g1 : bt (whV w r a) w := h1.elim id (fun z => z.1)
      have g2 : bt (whV w r w) b := h2.elim id (fun z => z.2)
      exact Or.inr ⟨g1, g2⟩
    · have wv : w < v := by omega
      rcases h1 with h1 | ⟨h1, h1'⟩ <;> rcases h2 with h2 | ⟨h2, h2'⟩
      · exact Or.inl (ih a w b ha wv hb h1 h2)
      · exact Or.inr ⟨ih a w v ha wv v8 h1 h2, h2'⟩
      · exact Or.inr ⟨h1, ih v w b v8 wv hb h1' h2⟩
      · exact Or.inr ⟨h1, h2'⟩
theorem wV_bt (hL : LnP σ) {p q : Nat} (hp : p < 8) (hq : q < 8) : bt (whV 8 (R0 σ) p) q ↔ Rch σ p q := by
  refine ⟨wV_R hL 8 (Nat.le_refl _) p q hp hq, fun h => ?_⟩
  refine h (fun r => bt (whV 8 (R0 σ) p) r) (fun r hr e => wV_up hp ((R0_bt hL hr).mpr e) 8) (fun a b ha hb h1 e => ?_)
  exact wV_tr 8 (Nat.le_refl _) p a b hp ha hb h1 (wV_up ha ((R0_bt hL hb).mpr e) 8)
def cntB (its : Int32) (p : Nat) : Nat → Int32
  | 0 => 0
  | q + 1 => cntB its p q + (if ¬ q = p ∧ (its >>> (nI q &&& 31)) &&& 1 = 1 then 1 else 0)
theorem bc_cnt : ∀ m : Fin 256, ∀ p : Fin 8, bcf (nI m.val &&& (1 <<< (nI p.val &&& 31) ^^^ -1)) = cntB (nI m.val) p.val 8 := by decide +kernel
end Rc
