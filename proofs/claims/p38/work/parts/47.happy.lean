/-! ===== the class's calls with arguments that are in order: nothing is thrown ===== -/
theorem Ct.ok {G : Gt} {y : MethodName} {w : Cond} {rf rl mc ms : Nat} {As : List Value} {h : Hp} {po po' : Option Value → Hp → Prop} {px : String → Hp → Prop} (hM : Ct G y w rf rl mc ms As h po px) (hp : ∀ v h', po v h' → po' v h') (hx : ∀ E h', px E h' → False) : Ct G y w rf rl mc ms As h po' pxN := by
  intro p e ha hc hk s m args below hf hap hP hK
  obtain ⟨n, o, h1, h2, h3, h4⟩ := hM p e ha hc hk s m args below hf hap hP hK
  refine ⟨n, o, h1, h2, h3, ?_⟩
  rcases h4 with ⟨⟨v, h', e1, e2, e3, e4⟩, h5⟩ | ⟨q, -, E, ce, L, ⟨h', z, -⟩, -⟩
  · exact Or.inl ⟨⟨v, h', e1, hp v h' e2, e3, e4⟩, h5⟩
  · exact (hx E h' z).elim
section Ha
variable {G : Gt} {h : Hp} {A : Nat → Nat} {σ : Sg} {P : PS} {r : Nat → Int32}
theorem nI_e {a b : Nat} (ha : a < 2 ^ 31) (hb : b < 2 ^ 31) (e : nI a = nI b) : a = b := (nI_eq ha hb).mp e
theorem hp_linesOf (hG : GOk G) (hC : CS h A σ P r) {t : Nat} (ht : t < gT σ) : Ct G yX3_linesOf (.code yX3_linesOf cX3_linesOf 2 (some .int)) 7 104 2 12 [.ref (A 0), .int (nI t)] h (is_i (nI (gn σ t)) h) pxN := by
  have h8 := hC.2.1
  refine (c_X3_linesOf hG hC (nI t)).ok (fun v h' z => ?_) (fun E h' z => z.2.1 ⟨t, ht, rfl⟩)
  obtain ⟨⟨t', ht', e, hv⟩, he⟩ := z
  rw [nI_e (by omega) (by omega) e]
  exact ⟨hv, he⟩
theorem hp_isInCellar (hG : GOk G) (hC : CS h A σ P r) (hR : RI σ) {t : Nat} (ht : t < gT σ) : Ct G yX3_isInCellar (.code yX3_isInCellar cX3_isInCellar 2 (some .boolean)) 7 104 2 12 [.ref (A 0), .int (nI t)] h (is_i (gce σ t) h) pxN := by
  have h8 := hC.2.1
  refine (c_X3_isInCellar hG hC (nI t) hR.2.1).ok (fun v h' z => ?_) (fun E h' z => z.2.1 ⟨t, ht, rfl⟩)
  obtain ⟨⟨t', ht', e, hv⟩, he⟩ := z
  rw [nI_e (by omega) (by omega) e]
  exact ⟨hv, he⟩
theorem hp_hasOn (hG : GOk G) (hC : CS h A σ P r) {t p : Nat} (ht : t < gT σ) (hp : p < 8) : Ct G yX3_hasOn (.code yX3_hasOn cX3_hasOn 4 (some .int)) 7 104 2 12 [.ref (A 0), .int (nI t), .int (nI p)] h (is_i (bal (gDD σ t) (gC σ t) (gM σ t) (nI p) (gn σ t)) h) pxN := by
  have h8 := hC.2.1
  refine (c_X3_hasOn hG hC (nI t) (nI p)).ok (fun v h' z => ?_) (fun E h' z => z.2.1 ⟨⟨t, ht, rfl⟩, inP_nI hp⟩)
  obtain ⟨⟨t', p', ht', hp', e, e2, hv⟩, he⟩ := z
  rw [nI_e (by omega) (by omega) e, e2]
  exact ⟨hv, he⟩
theorem hp_linesSmoothed (hG : GOk G) (hC : CS h A σ P r) {t : Nat} (ht : t < gT σ) : Ct G yX3_linesSmoothed (.code yX3_linesSmoothed cX3_linesSmoothed 2 (some .int)) 7 104 2 12 [.ref (A 0), .int (nI t)] h (is_s A σ r h (lf σ t)) pxN := by
  have h8 := hC.2.1
  refine (c_X3_linesSmoothed hG hC (nI t)).ok (fun v h' z => ?_) (fun E h' z => z.2.1 ⟨t, ht, rfl⟩)
  obtain ⟨t', ht', e, hv⟩ := z
  rw [nI_e (by omega) (by omega) e]
  exact hv
theorem hp_years (hG : GOk G) (hC : CS h A σ P r) (hy : gy σ < 2 ^ 30) {t : Nat} (ht : t < gT σ) : Ct G yX3_yearsUntilMelted (.code yX3_yearsUntilMelted cX3_yearsUntilMelted 2 (some .int)) 7 104 2 12 [.ref (A 0), .int (nI t)] h (is_i (ytm σ t 10 0) h) pxN := by
  have h8 := hC.2.1
  refine (c_X3_yearsUntilMelted hG hC (nI t) hy).ok (fun v h' z => ?_) (fun E h' z => z.2.1 ⟨t, ht, rfl⟩)
  obtain ⟨⟨t', ht', e, hv⟩, he⟩ := z
  rw [nI_e (by omega) (by omega) e]
  exact ⟨hv, he⟩
theorem hp_debtorOf (hG : GOk G) (hC : CS h A σ P r) (hR : RI σ) {t l : Nat} (ht : t < gT σ) (hl : l < gn σ t) : Ct G yX3_debtorOf (.code yX3_debtorOf cX3_debtorOf 3 (some .int)) 8 127 3 18 [.ref (A 0), .int (nI t), .int (nI l)] h (is_i (gDD σ t l) h) pxN := by
  have h8 := hC.2.1
  have h12 := hR.2.2.2
  refine (c_X3_debtorOf hG hC (nI t) (nI l)).ok (fun v h' z => ?_) (fun E h' z => z.2.1 ⟨t, l, ht, hl, rfl, rfl⟩)
  obtain ⟨⟨t', l', ht', hl', e, e2, hv⟩, he⟩ := z
  have := h12 t ht
  have := h12 t' ht'
  rw [nI_e (by omega) (by omega) e, nI_e (by omega) (by omega) e2]
  exact ⟨hv, he⟩
theorem hp_creditorOf (hG : GOk G) (hC : CS h A σ P r) (hR : RI σ) {t l : Nat} (ht : t < gT σ) (hl : l < gn σ t) : Ct G yX3_creditorOf (.code yX3_creditorOf cX3_creditorOf 3 (some .int)) 8 127 3 18 [.ref (A 0), .int (nI t), .int (nI l)] h (is_i (gC σ t l) h) pxN := by
  have h8 := hC.2.1
  have h12 := hR.2.2.2
  refine (c_X3_creditorOf hG hC (nI t) (nI l)).ok (fun v h' z => ?_) (fun E h' z => z.2.1 ⟨t, l, ht, hl, rfl, rfl⟩)
  obtain ⟨⟨t', l', ht', hl', e, e2, hv⟩, he⟩ := z
  have := h12 t ht
  have := h12 t' ht'
  rw [nI_e (by omega) (by omega) e, nI_e (by omega) (by omega) e2]
  exact ⟨hv, he⟩
theorem hp_amountOf (hG : GOk G) (hC : CS h A σ P r) (hR : RI σ) {t l : Nat} (ht : t < gT σ) (hl : l < gn σ t) : Ct G yX3_amountOf (.code yX3_amountOf cX3_amountOf 3 (some .int)) 8 127 3 18 [.ref (A 0), .int (nI t), .int (nI l)] h (is_i (gM σ t l) h) pxN := by
  have h8 := hC.2.1
  have h12 := hR.2.2.2
  refine (c_X3_amountOf hG hC (nI t) (nI l)).ok (fun v h' z => ?_) (fun E h' z => z.2.1 ⟨t, l, ht, hl, rfl, rfl⟩)
  obtain ⟨⟨t', l', ht', hl', e, e2, hv⟩, he⟩ := z
  have := h12 t ht
  have := h12 t' ht'
  rw [nI_e (by omega) (by omega) e, nI_e (by omega) (by omega) e2]
  exact ⟨hv, he⟩
theorem hp_isWitnessed (hG : GOk G) (hC : CS h A σ P r) (hR : RI σ) {t l w : Nat} (ht : t < gT σ) (hl : l < gn σ t) (hw : w < 8) (ew : gW σ t l = nI w) : Ct G yX3_isWitnessed (.code yX3_isWitnessed cX3_isWitnessed 3 (some .boolean)) 8 127 3 18 [.ref (A 0), .int (nI t), .int (nI l)] h (is_i (gth σ w) h) pxN := by
  have h8 := hC.2.1
  have h12 := hR.2.2.2
  refine (c_X3_isWitnessed hG hC (nI t) (nI l)).ok (fun v h' z => ?_) (fun E h' z => z.2.1 ⟨t, l, ht, hl, rfl, rfl⟩)
  obtain ⟨⟨t', l', ht', hl', e, e2, hv⟩, he⟩ := z
  have q1 := h12 t ht
  have q2 := h12 t' ht'
  rw [← nI_e (by omega) (by omega) e, ← nI_e (by omega) (by omega) e2, ew, nI_clamp (by omega)] at hv
  refine ⟨?_, he⟩
  rw [hv]
  rcases hR.1 w hw with z | z
  · rw [z, tf, if_neg (fun q => q.2 rfl)]
  · rw [z, tf, if_pos ⟨inP_nI hw, by decide +kernel⟩]
theorem hp_isThere (hG : GOk G) (hC : CS h A σ P r) (hR : RI σ) {p : Nat} (hp : p < 8) : Ct G yX3_isThere (.code yX3_isThere cX3_isThere 2 (some .boolean)) 7 102 1 6 [.ref (A 0), .int (nI p)] h (is_i (gth σ p) h) pxN := by
  refine (c_X3_isThere hG hC (nI p) hR.1).ok (fun v h' z => ?_) (fun E h' z => z.2.1 (inP_nI hp))
  obtain ⟨⟨p', hp', e, hv⟩, he⟩ := z
  rw [nI_e8 hp hp' e]
  exact ⟨hv, he⟩
theorem hp_has (hG : GOk G) (hC : CS h A σ P r) {p : Nat} (hp : p < 8) : Ct G yX3_has (.code yX3_has cX3_has 2 (some .int)) 7 102 1 6 [.ref (A 0), .int (nI p)] h (is_i (balT σ (nI p) (gT σ)) h) pxN := by
  refine (c_X3_has hG hC (nI p)).ok (fun v h' z => ?_) (fun E h' z => z.2.1 (inP_nI hp))
  obtain ⟨⟨p', hp', e, hv⟩, he⟩ := z
  rw [e]
  exact ⟨hv, he⟩
theorem hp_owes (hG : GOk G) (hC : CS h A σ P r) {p q : Nat} (hp : p < 8) (hq : q < 8) : Ct G yX3_owes (.code yX3_owes cX3_owes 8 (some .int)) 7 102 2 12 [.ref (A 0), .int (nI p), .int (nI q)] h (is_i (gOw σ (nI p) (nI q) (gT σ)) h) pxN :=
  (c_X3_owes hG hC (nI p) (nI q)).ok (fun v h' z => z.2) (fun E h' z => z.2.1 ⟨inP_nI hp, inP_nI hq⟩)
abbrev atR (σ : Sg) (p : Nat) : Int32 := if gth σ p = 0 then 0 else gRk σ (nI p) (gT σ)
theorem hp_atRisk (hG : GOk G) (hC : CS h A σ P r) {p : Nat} (hp : p < 8) : Ct G yX3_atRisk (.code yX3_atRisk cX3_atRisk 7 (some .int)) 7 102 1 6 [.ref (A 0), .int (nI p)] h (is_i (atR σ p) h) pxN :=
  (c_X3_atRisk hG hC (nI p)).ok (fun v h' z => by
    have := z.2
    rw [nI_clamp (by omega)] at this
    exact this) (fun E h' z => z.2.1 (inP_nI hp))
theorem hp_owesAlong (hG : GOk G) (hC : CS h A σ P r) {p : Nat} (hp : p < 8) : Ct G yX3_owesAlong (.code yX3_owesAlong cX3_owesAlong 2 (some .int)) 7 102 1 6 [.ref (A 0), .int (nI p)] h (is_r A σ P h (gOA σ (nI p))) pxN :=
  (c_X3_owesAlong hG hC (nI p)).ok (fun v h' z => z.2) (fun E h' z => z.2.1 (inP_nI hp))
theorem inY_1 : inY (nI 1) := ⟨fun z => by
  have := (nI_ltI (a := 1) (b := 1) (by decide) (by decide)).mp z
  omega, (nI_leI (a := 1) (b := 40) (by decide) (by decide)).mpr (by decide)⟩
theorem hp_meltsIn (hG : GOk G) (hC : CS h A σ P r) (hy : gy σ < 2 ^ 30) : Ct G yX3_meltsIn (.code yX3_meltsIn cX3_meltsIn 8 (some .int)) 7 102 1 6 [.ref (A 0), .int (nI 1)] h (is_i (gMI σ (nI 1) (gT σ)) h) pxN :=
  (c_X3_meltsIn hG hC (nI 1) hy).ok (fun v h' z => z.2) (fun E h' z => z.2.1 inY_1)
theorem hp_pass (hG : GOk G) (hC : CS h A σ P r) (hy : gy σ < 2 ^ 29) : Ct G yX3_pass (.code yX3_pass cX3_pass 4 (some .int)) 7 102 1 6 [.ref (A 0), .int (nI 1)] h (fun v h' => v = some (.int (goN 1 σ)) ∧ CS h' A (sPass σ 1) P r ∧ kpC h h' A (12 + 6 * gT σ)) pxN := by
  refine (c_X3_pass hG hC hy (nI 1)).ok (fun v h' z => ?_) (fun E h' z => z.2.1 inY_1)
  obtain ⟨n, hn, e, -, z⟩ := z
  rw [nI_e (by omega) (by omega) e]
  exact z
theorem dc_self {x : UInt64} (h : vf_n64 x) : Op.cmpValue (FP.dcmp x x) .l = 0 := by
  have h1 : x.toNat % 2 ^ 63 ≤ 9218868437227405312 := by
    have h := UInt64.le_iff_toNat_le.mp h
    rw [mask63] at h
    exact h
  have h2 : FP.dcmp x x = some .eq := FP.Core.dcmp_self ((FP.Core.ne_nan x).mpr h1)
  rw [h2]
  rfl
theorem mn_n64 (n s : Int32) : vf_n64 (mn n s) := by
  unfold mn
  split
  · show (0 : UInt64) &&& 0x7fffffffffffffff ≤ 0x7ff0000000000000
    decide +kernel
  · next q => exact dv_n64 _ _ q
theorem mn_self (n s : Int32) : Op.cmpValue (FP.dcmp (mn n s) (mn n s)) .l = 0 := dc_self (mn_n64 n s)
end Ha
