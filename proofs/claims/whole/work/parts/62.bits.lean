/-! ===== bits below 8; who is reached ===== -/
abbrev bt (x : Int32) (q : Nat) : Prop := (x >>> (nI q &&& 31)) &&& 1 = 1
theorem and1_01 (a : Int32) : a &&& 1 = 0 ∨ a &&& 1 = 1 := by
  rw [pk_and a (m := 1) 1 (by decide +kernel)]
  have : a.toBitVec.toNat % 2 ^ 1 = 0 ∨ a.toBitVec.toNat % 2 ^ 1 = 1 := by omega
  rcases this with h | h
  · rw [h]
    exact Or.inl (by decide +kernel)
  · rw [h]
    exact Or.inr (by decide +kernel)
theorem hB_bt {x : Int32} {q : Nat} : hB x q ↔ bt x q := by
  rcases and1_01 (x >>> (nI q &&& 31)) with h | h
  · exact ⟨fun z => absurd h z, fun z => absurd (h.symm.trans z) (by decide)⟩
  · exact ⟨fun _ => h, fun _ z => absurd (z.symm.trans h) (by decide)⟩
theorem or_and1 (a b : Int32) : (a ||| b) &&& 1 = (a &&& 1) ||| (b &&& 1) := by
  apply Int32.toBitVec_inj.mp
  rw [Int32.toBitVec_and, Int32.toBitVec_or, Int32.toBitVec_or, Int32.toBitVec_and, Int32.toBitVec_and]
  ext i hi
  simp only [BitVec.getElem_and, BitVec.getElem_or]
  generalize a.toBitVec[i] = x
  generalize b.toBitVec[i] = y
  generalize (1 : Int32).toBitVec[i] = z
  revert x y z
  decide
theorem bt_or {x y : Int32} {q : Nat} : bt (x ||| y) q ↔ bt x q ∨ bt y q := by
  unfold bt
  rw [Int32.shiftRight_or, or_and1]
  rcases and1_01 (x >>> (nI q &&& 31)) with h | h <;> rcases and1_01 (y >>> (nI q &&& 31)) with g | g <;> rw [h, g] <;> decide
theorem bt_one {p q : Nat} (hp : p < 8) (hq : q < 8) : bt (1 <<< (nI p &&& 31)) q ↔ q = p := by
  have := bit_pq ⟨p, hp⟩ ⟨q, hq⟩
  simp only [Fin.mk.injEq] at this
  unfold bt
  rw [this]
  by_cases z : q = p
  · rw [if_pos z]
    exact ⟨fun _ => z, fun _ => rfl⟩
  · rw [if_neg z]
    exact ⟨fun h => absurd h (by decide), fun h => absurd h z⟩
theorem bt_z8 : ∀ q : Fin 8, ¬ bt 0 q.val := by decide +kernel
theorem bt_zero {q : Nat} (hq : q < 8) : ¬ bt 0 q := bt_z8 ⟨q, hq⟩
def lo (x : Int32) : Prop := ∃ m, m < 256 ∧ x = nI m
theorem lo_0 : lo 0 := ⟨0, by decide, by decide +kernel⟩
theorem lo_or {x y : Int32} (hx : lo x) (hy : lo y) : lo (x ||| y) := by
  obtain ⟨a, ha, rfl⟩ := hx
  obtain ⟨b, hb, rfl⟩ := hy
  have hab : a ||| b < 2 ^ 8 := Nat.or_lt_two_pow ha hb
  refine ⟨a ||| b, hab, ?_⟩
  apply Int32.toBitVec_inj.mp
  apply BitVec.eq_of_toNat_eq
  rw [Int32.toBitVec_or, BitVec.toNat_or, pk_tn (by omega), pk_tn (by omega), pk_tn (by omega)]
theorem lo_o8 : ∀ c : Fin 8, (1 <<< (nI c.val &&& 31) : Int32) = nI (2 ^ c.val) ∧ 2 ^ c.val < 256 := by decide +kernel
theorem lo_one {c : Nat} (hc : c < 8) : lo (1 <<< (nI c &&& 31)) := ⟨2 ^ c, (lo_o8 ⟨c, hc⟩).2, (lo_o8 ⟨c, hc⟩).1⟩
theorem bt_nI8 : ∀ m : Fin 256, ∀ q : Fin 8, bt (nI m.val) q.val ↔ m.val.testBit q.val = true := by decide +kernel
theorem lo_ext {x y : Int32} (hx : lo x) (hy : lo y) (e : ∀ q, q < 8 → (bt x q ↔ bt y q)) : x = y := by
  obtain ⟨a, ha, rfl⟩ := hx
  obtain ⟨b, hb, rfl⟩ := hy
  refine congrArg nI (Nat.eq_of_testBit_eq fun i => ?_)
  by_cases hi : i < 8
  · exact Bool.eq_iff_iff.mpr (((bt_nI8 ⟨a, ha⟩ ⟨i, hi⟩).symm.trans (e i hi)).trans (bt_nI8 ⟨b, hb⟩ ⟨i, hi⟩))
  · have h8 : 2 ^ 8 ≤ 2 ^ i := Nat.pow_le_pow_right (by decide) (by omega)
    rw [Nat.testBit_lt_two_pow (by omega), Nat.testBit_lt_two_pow (by omega)]
/-- how many bits below f -/
def cn (x : Int32) : Nat → Nat
  | 0 => 0
  | f + 1 => cn x f + if bt x f then 1 else 0
theorem cn_le (x : Int32) : ∀ f, cn x f ≤ f
  | 0 => Nat.le_refl _
  | f + 1 => by
    have := cn_le x f
    unfold cn
    split <;> omega
theorem cn_mono {x y : Int32} (h : ∀ q, q < 8 → bt x q → bt y q) : ∀ f, f ≤ 8 → cn x f ≤ cn y f
  | 0, _ => Nat.le_refl _
  | f + 1, hf => by
    have ih := cn_mono h f (by omega)
    unfold cn
    by_cases z : bt x f
    · rw [if_pos z, if_pos (h f (by omega) z)]
      omega
    · rw [if_neg z]
      split <;> omega
theorem cn_lt {x y : Int32} (h : ∀ q, q < 8 → bt x q → bt y q) {q : Nat} (hx : ¬ bt x q) (hy : bt y q) : ∀ f, f ≤ 8 → q < f → cn x f < cn y f
  | 0, _, hq => absurd hq (Nat.not_lt_zero q)
  | f + 1, hf, hq => by
    unfold cn
    by_cases e : q = f
    · have := cn_mono h f (by omega)
      rw [e] at hx hy
      rw [if_neg hx, if_pos hy]
      omega
    · have ih := cn_lt h hx hy f (by omega) (by omega)
      by_cases z : bt x f
      · rw [if_pos z, if_pos (h f (by omega) z)]
        omega
      · rw [if_neg z]
        split <;> omega
/-- lines are between persons -/
abbrev LnP (σ : Sg) : Prop := ∀ t l, t < gT σ → l < gn σ t → inP (gDD σ t l) ∧ inP (gC σ t l)
def Ed (σ : Sg) (p r : Nat) : Prop := ∃ t l, t < gT σ ∧ l < gn σ t ∧ gDD σ t l = nI p ∧ gC σ t l = nI r
theorem nI_e8 {p q : Nat} (hp : p < 8) (hq : q < 8) (e : nI p = nI q) : p = q := (nI_eq (by omega) (by omega)).mp e
section Rc
variable {σ : Sg}
theorem cb_lo {D C : Nat → Int32} {p : Int32} : ∀ n, (∀ l, l < n → inP (C l)) → lo (cbits D C p n)
  | 0, _ => lo_0
  | n + 1, h => by
    have ih := cb_lo (D := D) (C := C) (p := p) n (fun l hl => h l (by omega))
    obtain ⟨c, hc, ec⟩ := inP_of (h n (by omega))
    unfold cbits
    split
    · rw [ec]
      exact lo_or ih (lo_one hc)
    · exact ih
theorem cb_bt {D C : Nat → Int32} {p : Int32} {r : Nat} (hr : r < 8) : ∀ n, (∀ l, l < n → inP (C l)) → (bt (cbits D C p n) r ↔ ∃ l, l < n ∧ D l = p ∧ C l = nI r)
  | 0, _ => ⟨fun h => absurd h (bt_zero hr), fun ⟨l, hl, _⟩ => absurd hl (Nat.not_lt_zero l)⟩
  | n + 1, h => by
    have ih := cb_bt (D := D) (C := C) (p := p) hr n (fun l hl => h l (by omega))
    obtain ⟨c, hc, ec⟩ := inP_of (h n (by omega))
    unfold cbits
    by_cases z : D n = p
    · rw [if_pos z, bt_or, ih, ec, bt_one hc hr]
      constructor
      · rintro (⟨l, h1, h2, h3⟩ | rfl)
        · exact ⟨l, by omega, h2, h3⟩
        · exact ⟨n, by omega, z, ec⟩
      · rintro ⟨l, h1, h2, h3⟩
        by_cases e : l = n
        · rw [e, ec] at h3
          exact Or.inr (nI_e8 hr hc h3.symm)
        · exact Or.inl ⟨l, by omega, h2, h3⟩
    · rw [if_neg z, ih]
      constructor
      · rintro ⟨l, h1, h2, h3⟩
        exact ⟨l, by omega, h2, h3⟩
      · rintro ⟨l, h1, h2, h3⟩
        by_cases e : l = n
        · rw [e] at h2
          exact absurd h2 z
        · exact ⟨l, by omega, h2, h3⟩
theorem cT_lo (hL : LnP σ) {p : Int32} : ∀ T, T ≤ gT σ → lo (cbT σ p T)
  | 0, _ => lo_0
  | T + 1, h => lo_or (cT_lo hL T (by omega)) (cb_lo _ (fun l hl => (hL T l (by omega) hl).2))
theorem cT_bt (hL : LnP σ) {p r : Nat} (hr : r < 8) : ∀ T, T ≤ gT σ → (bt (cbT σ (nI p) T) r ↔ ∃ t l, t < T ∧ l < gn σ t ∧ gDD σ t l = nI p ∧ gC σ t l = nI r)
  | 0, _ => ⟨fun h => absurd h (bt_zero hr), fun ⟨t, l, ht, _⟩ => absurd ht (Nat.not_lt_zero t)⟩
  | T + 1, h => by
    have ih := cT_bt hL (p := p) hr T (by omega)
    unfold cbT
    rw [bt_or, ih, cb_bt hr _ (fun l hl => (hL T l (by omega) hl).2)]
    constructor
    · rintro (⟨t, l, h1, h2⟩ | ⟨l, h2⟩)
      · exact ⟨t, l, by omega, h2⟩
      · exact ⟨T, l, by omega, h2⟩
    · rintro ⟨t, l, h1, h2⟩
      by_cases e : t = T
      · rw [e] at h2
        exact Or.inr ⟨l, h2⟩
      · exact Or.inl ⟨t, l, by omega, h2⟩
theorem R0_bt (hL : LnP σ) {p r : Nat} (hr : r < 8) : bt (R0 σ p) r ↔ Ed σ p r := cT_bt hL hr (gT σ) (Nat.le_refl _)
theorem R0_lo (hL : LnP σ) (p : Nat) : lo (R0 σ p) := cT_lo hL (gT σ) (Nat.le_refl _)
theorem oL_lo {fr : Int32} {t : Nat} : ∀ n, (∀ l, l < n → inP (gC σ t l)) → lo (orL σ fr t n)
  | 0, _ => lo_0
  | n + 1, h => by
    have ih := oL_lo (fr := fr) n (fun l hl => h l (by omega))
    obtain ⟨c, hc, ec⟩ := inP_of (h n (by omega))
    unfold orL
    split
    · rw [ec]
      exact lo_or ih (lo_one hc)
    · exact ih
theorem oL_bt {fr : Int32} {t r : Nat} (hr : r < 8) : ∀ n, (∀ l, l < n → inP (gDD σ t l) ∧ inP (gC σ t l)) → (bt (orL σ fr t n) r ↔ ∃ l q, l < n ∧ q < 8 ∧ bt fr q ∧ gDD σ t l = nI q ∧ gC σ t l = nI r)
  | 0, _ => ⟨fun h => absurd h (bt_zero hr), fun ⟨l, _, hl, _⟩ => absurd hl (Nat.not_lt_zero l)⟩
  | n + 1, h => by
    have ih := oL_bt (fr := fr) hr n (fun l hl => h l (by omega))
    obtain ⟨c, hc, ec⟩ := inP_of (h n (by omega)).2
    obtain ⟨d, hd, ed⟩ := inP_of (h n (by omega)).1
    unfold orL
    by_cases z : (fr >>> (gDD σ t n &&& 31)) &&& 1 = 1
    · rw [if_pos z, bt_or, ih, ec, bt_one hc hr]
      rw [ed] at z
      constructor
      · rintro (⟨l, q, h1, h2, h3⟩ | rfl)
        · exact ⟨l, q, by omega, h2, h3⟩
        · exact ⟨n, d, by omega, hd, z, ed, ec⟩
      · rintro ⟨l, q, h1, h2, h3, h4, h5⟩
        by_cases e : l = n
        · rw [e, ec] at h5
          exact Or.inr (nI_e8 hr hc h5.symm)
        · exact Or.inl ⟨l, q, by omega, h2, h3, h4, h5⟩
    · rw [if_neg z, ih]
      rw [ed] at z
      constructor
      · rintro ⟨l, q, h1, h2, h3⟩
        exact ⟨l, q, by omega, h2, h3⟩
      · rintro ⟨l, q, h1, h2, h3, h4, h5⟩
        by_cases e : l = n
        · rw [e, ed] at h4
          rw [← nI_e8 hd h2 h4] at h3
          exact absurd h3 z
        · exact ⟨l, q, by omega, h2, h3, h4, h5⟩
theorem oA_lo (hL : LnP σ) {fr : Int32} : ∀ T, T ≤ gT σ → lo (orA σ fr T)
  | 0, _ => lo_0
  | T + 1, h => lo_or (oA_lo hL T (by omega)) (oL_lo _ (fun l hl => (hL T l (by omega) hl).2))
theorem oA_bt (hL : LnP σ) {fr : Int32} {r : Nat} (hr : r < 8) : ∀ T, T ≤ gT σ → (bt (orA σ fr T) r ↔ ∃ t l q, t < T ∧ l < gn σ t ∧ q < 8 ∧ bt fr q ∧ gDD σ t l = nI q ∧ gC σ t l = nI r)
  | 0, _ => ⟨fun h => absurd h (bt_zero hr), fun ⟨t, _, _, ht, _⟩ => absurd ht (Nat.not_lt_zero t)⟩
  | T + 1, h => by
    have ih := oA_bt hL (fr := fr) hr T (by omega)
    unfold orA
    rw [bt_or, ih, oL_bt hr _ (fun l hl => hL T l (by omega) hl)]
    constructor
    · rintro (⟨t, l, q, h1, h2⟩ | ⟨l, q, h2⟩)
      · exact ⟨t, l, q, by omega, h2⟩
      · exact ⟨T, l, q, by omega, h2⟩
    · rintro ⟨t, l, q, h1, h2⟩
      by_cases e : t = T
      · rw [e] at h2
        exact Or.inr ⟨l, q, h2⟩
      · exact Or.inl ⟨t, l, q, by omega, h2⟩
theorem st_lo (hL : LnP σ) {p : Nat} {x : Int32} (hx : lo x) : lo (stpR σ p x) := lo_or hx (oA_lo hL _ (Nat.le_refl _))
theorem st_bt (hL : LnP σ) {p r : Nat} (hp : p < 8) (hr : r < 8) {x : Int32} : bt (stpR σ p x) r ↔ bt x r ∨ ∃ q, q < 8 ∧ (bt x q ∨ q = p) ∧ Ed σ q r := by
  unfold stpR
  rw [bt_or, oA_bt hL hr _ (Nat.le_refl _)]
  constructor
  · rintro (h | ⟨t, l, q, h1, h2, h3, h4, h5⟩)
    · exact Or.inl h
    · refine Or.inr ⟨q, h3, ?_, t, l, h1, h2, h5⟩
      rw [frO, bt_or, bt_one hp h3] at h4
      exact h4
  · rintro (h | ⟨q, h3, h4, t, l, h1, h2, h5⟩)
    · exact Or.inl h
    · refine Or.inr ⟨t, l, q, h1, h2, h3, ?_, h5⟩
      rw [frO, bt_or, bt_one hp h3]
      exact h4
theorem ri_lo (hL : LnP σ) {p : Nat} : ∀ k, lo (rit σ p k)
  | 0 => lo_0
  | k + 1 => st_lo hL (ri_lo hL k)
theorem ri_cn (hL : LnP σ) {p : Nat} (hp : p < 8) : ∀ k, (∃ j, j < k ∧ rit σ p (j + 1) = rit σ p j) ∨ k ≤ cn (rit σ p k) 8
  | 0 => Or.inr (Nat.zero_le _)
  | k + 1 => by
    rcases ri_cn hL hp k with ⟨j, h1, h2⟩ | h
    · exact Or.inl ⟨j, by omega, h2⟩
    · have hm : ∀ q, q < 8 → bt (rit σ p k) q → bt (rit σ p (k + 1)) q := fun q hq h => by
        rw [show rit σ p (k + 1) = stpR σ p (rit σ p k) from rfl, st_bt hL hp hq]
        exact Or.inl h
      by_cases hz : ∃ q, q < 8 ∧ ¬ bt (rit σ p k) q ∧ bt (rit σ p (k + 1)) q
      · obtain ⟨q, h1, h2, h3⟩ := hz
        have := cn_lt hm h2 h3 8 (Nat.le_refl _) h1
        exact Or.inr (by omega)
      · exact Or.inl ⟨k, by omega, lo_ext (ri_lo hL _) (ri_lo hL _) fun q hq => ⟨fun h2 => Classical.byContradiction fun h3 => hz ⟨q, hq, h3, h2⟩, hm q hq⟩⟩
theorem RST_of (hL : LnP σ) : RST σ := fun p hp => by
  rcases ri_cn hL hp 9 with ⟨j, h1, h2⟩ | h
  · have a := rit_st h2 (8 + 1 - j)
    have b := rit_st h2 (8 - j)
    rw [show j + (8 + 1 - j) = 8 + 1 by omega] at a
    rw [show j + (8 - j) = 8 by omega] at b
    exact a.trans b.symm
  · have := cn_le (rit σ p 9) 8
    omega
/-- one gets from p to q along one line or more -/
def Rch (σ : Sg) (p q : Nat) : Prop := ∀ P : Nat → Prop, (∀ r, r < 8 → Ed σ p r → P r) → (∀ a b, a < 8 → b < 8 → P a → Ed σ a b → P b) → P q
theorem ri_R (hL : LnP σ) {p : Nat} (hp : p < 8) : ∀ k q, q < 8 → bt (rit σ p k) q → Rch σ p q
  | 0, q, hq, h => absurd h (bt_zero hq)
  | k + 1, q, hq, h => by
    rw [show rit σ p (k + 1) = stpR σ p (rit σ p k) from rfl, st_bt hL hp hq] at h
    rcases h with h | ⟨a, ha, h1, h2⟩
    · exact ri_R hL hp k q hq h
    · intro P h3 h4
      rcases h1 with h1 | rfl
      · exact h4 a q ha hq (ri_R hL hp k a ha h1 P h3 h4) h2
      · exact h3 q hq h2
theorem ri_bt (hL : LnP σ) {p q : Nat} (hp : p < 8) (hq : q < 8) : bt (rit σ p 8) q ↔ Rch σ p q := by
  refine ⟨ri_R hL hp 8 q hq, fun h => ?_⟩
  have hs : stpR σ p (rit σ p 8) = rit σ p 8 := RST_of hL p hp
  refine h (fun r => bt (rit σ p 8) r) (fun r hr e => ?_) (fun a b ha hb h1 e => ?_)
  · show bt (rit σ p 8) r
    rw [← hs, st_bt hL hp hr]
    exact Or.inr ⟨p, hp, Or.inr rfl, e⟩
  · show bt (rit σ p 8) b
    rw [← hs, st_bt hL hp hb]
    exact Or.inr ⟨a, ha, Or.inl h1, e⟩
-- Warshall
theorem whF_at {v : Nat} {r : Nat → Int32} : ∀ f p, whF v f r p = if p < f ∧ hB (r p) v then r p ||| r v else r p
  | 0, p => (if_neg (fun q => Nat.not_lt_zero p q.1)).symm
  | f + 1, p => by
    have hv : whF v f r v = r v := by
      rw [whF_at f v]
      split
      · exact Int32.or_self
      · rfl
    have hf : whF v f r f = r f := by
      rw [whF_at f f, if_neg (fun q => Nat.lt_irrefl f q.1)]
    unfold whF
    rw [hv, hf]
    by_cases e : p = f
    · subst e
      by_cases z : hB (r p) v
      · rw [if_pos z, upd_s, if_pos ⟨Nat.lt_succ_self p, z⟩]
      · rw [if_neg z, whF_at p p, if_neg (fun q => z q.2), if_neg (fun q => z q.2)]
    · have : (if hB (r f) v then upd (whF v f r) f (r f ||| r v) else whF v f r) p = whF v f r p := by
        split
        · exact upd_n e
        · rfl
      rw [this, whF_at f p]
      by_cases z : p < f ∧ hB (r p) v
      · rw [if_pos z, if_pos ⟨by omega, z.2⟩]
      · rw [if_neg z, if_neg (fun q => z ⟨by omega, q.2⟩)]
theorem wV_s {v p q : Nat} {r : Nat → Int32} (hp : p < 8) : bt (whV (v + 1) r p) q ↔ bt (whV v r p) q ∨ (bt (whV v r p) v ∧ bt (whV v r v) q) := by
  show bt (whF v 8 (whV v r) p) q ↔ _
  rw [whF_at]
  by_cases z : hB (whV v r p) v
  · rw [if_pos ⟨hp, z⟩, bt_or]
    exact ⟨fun h => h.imp id (fun g => ⟨hB_bt.mp z, g⟩), fun h => h.imp id (fun g => g.2)⟩
  · rw [if_neg (fun q => z q.2)]
    exact ⟨Or.inl, fun h => h.elim id (fun g => absurd (hB_bt.mpr g.1) z)⟩
theorem wV_lo {r : Nat → Int32} (h : ∀ p, lo (r p)) : ∀ v p, lo (whV v r p)
  | 0, p => h p
  | v + 1, p => by
    show lo (whF v 8 (whV v r) p)
    rw [whF_at]
    split
    · exact lo_or (wV_lo h v p) (wV_lo h v v)
    · exact wV_lo h v p
theorem Rch.tr {p v q : Nat} (h1 : Rch σ p v) (hv : v < 8) (h2 : Rch σ v q) : Rch σ p q := by
  intro P a b
  exact h2 P (fun r hr e => b v r hv hr (h1 P a b) e) b
theorem wV_R (hL : LnP σ) : ∀ v, v ≤ 8 → ∀ p q, p < 8 → q < 8 → bt (whV v (R0 σ) p) q → Rch σ p q
  | 0, _, p, q, hp, hq, h => fun P a _ => a q hq ((R0_bt hL hq).mp h)
  | v + 1, hv, p, q, hp, hq, h => by
    rcases (wV_s hp).mp h with h | ⟨h1, h2⟩
    · exact wV_R hL v (by omega) p q hp hq h
    · exact (wV_R hL v (by omega) p v hp (by omega) h1).tr (by omega) (wV_R hL v (by omega) v q (by omega) hq h2)
theorem wV_up {r : Nat → Int32} {p q : Nat} (hp : p < 8) (h : bt (r p) q) : ∀ v, bt (whV v r p) q
  | 0 => h
  | v + 1 => (wV_s hp).mpr (Or.inl (wV_up hp h v))
theorem wV_tr {r : Nat → Int32} : ∀ v, v ≤ 8 → ∀ a w b, a < 8 → w < v → b < 8 → bt (whV v r a) w → bt (whV v r w) b → bt (whV v r a) b
  | 0, _, _, w, _, _, hw, _, _, _ => absurd hw (Nat.not_lt_zero w)
  | v + 1, hv, a, w, b, ha, hw, hb, h1, h2 => by
    have v8 : v < 8 := by omega
    have w8 : w < 8 := by omega
    have ih := wV_tr (r := r) v (by omega)
    rw [wV_s ha] at h1 ⊢
    rw [wV_s w8] at h2
    by_cases e : w = v
    · subst e
      have g1 : bt (whV w r a) w := h1.elim id (fun z => z.1)
      have g2 : bt (whV w r w) b := h2.elim id (fun z => z.2)
      exact Or.inr ⟨g1, g2⟩
    · have wv : w < v := by omega
      rcases h1 with h1 | ⟨h1, h1'⟩ <;> rcases h2 with h2 | ⟨h2, h2'⟩
      · exact Or.inl (ih a w b ha wv hb h1 h2)
      · exact Or.inr ⟨ih a w v ha wv v8 h1 h2, h2'⟩
      · exact Or.inr ⟨h1, ih v w b v8 wv hb h1' h2⟩
      · exact Or.inr ⟨h1, h2'⟩
theorem wV_bt (hL : LnP σ) {p q : Nat} (hp : p < 8) (hq : q < 8) : bt (whV 8 (R0 σ) p) q ↔ Rch σ p q := by
  refine ⟨wV_R hL 8 (Nat.le_refl _) p q hp hq, fun h => ?_⟩
  refine h (fun r => bt (whV 8 (R0 σ) p) r) (fun r hr e => wV_up hp ((R0_bt hL hr).mpr e) 8) (fun a b ha hb h1 e => ?_)
  exact wV_tr 8 (Nat.le_refl _) p a b hp ha hb h1 (wV_up ha ((R0_bt hL hb).mpr e) 8)
theorem wV_ri (hL : LnP σ) {p : Nat} (hp : p < 8) : whV 8 (R0 σ) p = rit σ p 8 :=
  lo_ext (wV_lo (fun p => R0_lo hL p) 8 p) (ri_lo hL 8) fun q hq => (wV_bt hL hp hq).trans (ri_bt hL hp hq).symm
theorem bc_cnt : ∀ m : Fin 256, ∀ p : Fin 8, bcf (nI m.val &&& (1 <<< (nI p.val &&& 31) ^^^ -1)) = cntB (nI m.val) p.val 8 := by decide +kernel
theorem alB_gOA (hL : LnP σ) : ∀ p, p < 8 → alB σ p = gOA σ (nI p) := fun p hp => by
  obtain ⟨m, hm, e⟩ := ri_lo hL (p := p) 8
  unfold alB gOA
  rw [nI_clamp (by omega), wV_ri hL hp, e]
  exact (bc_cnt ⟨m, hm⟩ ⟨p, hp⟩).symm
theorem rd_rn (hL : LnP σ) : ∀ f i, i + f = 8 → rdB σ f i = rnd (whV 8 (R0 σ)) f i
  | 0, _, _ => rfl
  | f + 1, i, h => by
    have e : bt (rit σ i 8) i ↔ hB (whV 8 (R0 σ) i) i := by rw [wV_ri hL (by omega), hB_bt]
    unfold rdB rnd
    by_cases z : bt (rit σ i 8) i
    · rw [if_pos z, if_pos (e.mp z)]
    · rw [if_neg z, if_neg (fun q => z (e.mpr q)), rd_rn hL f (i + 1) (by omega)]
theorem rdB_rdd (hL : LnP σ) : rdB σ 8 0 = rdd σ := rd_rn hL 8 0 rfl
end Rc
