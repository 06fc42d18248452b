/-! ===== each call, class and model ===== -/
theorem sPay_T {σ : Sg} {t l : Nat} {a : Int32} : gT (sPay σ t l a) = gT σ := by
  unfold sPay
  split <;> rfl
section Op
variable {G : Gt} {h : Hp} {A B : Nat → Nat} {σ : Sg} {P : PS} {r : Nat → Int32} {u : Mu} {x : Int32} {md hs : Nat → Int32} {c : Nat} {o : Nat → Int64}
set_option maxHeartbeats 1000000 in
theorem n_addTablet (hG : GOk G) (hN : GNc G) (hC : CS h A σ P r) (ho : h c = some (out1 o)) (dAc : ∀ i, i < nA σ → A i ≠ c) (p0 : Int32) : Ct G yL_addTablet (.codeWith yL_addTablet cL_addTablet 4 (some .int) [(0, 9, 12, 13), (0, 9, 15, 15)]) 7 104 6 56 [.ref (A 0), .int p0, .ref c] h (cR Int32.toInt64 (st2 (inHa p0) (gT σ < 8)) (nI (gT σ)) σ (sAdd σ p0) A c h) pxN := by
  have hM : Ct G yX3_addTablet (.code yX3_addTablet cX3_addTablet 3 (some .int)) 6 82 6 56 [.ref (A 0), .int p0] h (cN (st2 (inHa p0) (gT σ < 8)) (nI (gT σ)) σ (sAdd σ p0) A h) (cT (st2 (inHa p0) (gT σ < 8)) σ A h cdAS) := by
    refine (c_X3_addTablet hG hC p0).conv (fun v h' q => ?_) (fun E h' q => ?_)
    · obtain ⟨q1, q2, rfl, A', a1, a2, hC', hk⟩ := q
      refine ⟨Or.inl ⟨rfl, q1, q2⟩, rfl, A', P, r, hC', a1 0 (by omega), fun i hi => ?_, fun q e he hq => ?_⟩
      · have hi : i < 12 + 6 * (gT σ + 1) := hi
        by_cases z : i < 12 + 6 * gT σ
        · exact Or.inl ⟨i, z, a1 i z⟩
        · exact Or.inr (a2 i (by omega) (by omega))
      · refine (hk q (fun i hi z => ?_)).trans he
        by_cases w : i < 12 + 6 * gT σ
        · exact hq i w (z.trans (a1 i w))
        · have e2 := a2 i (by omega) hi
          rw [← z, he] at e2
          cases e2
    · obtain ⟨⟨rfl, q1⟩ | ⟨rfl, q1, q2⟩, rfl⟩ := q
      · exact cT_AS1 (Or.inr (Or.inl ⟨rfl, q1⟩)) hC kpC.rf
      · exact cT_AS2 (Or.inr (Or.inr ⟨rfl, q1, q2⟩)) hC kpC.rf
  exact (w_addTablet hG hN hM hC.2.2.1 (cN_v ho dAc) cT_dAS).post (nR ho dAc)
set_option maxHeartbeats 1000000 in
theorem m_addTablet (hG : GOk G) (hM : MO h B σ x u md hs) (hR : RM σ u) (p0 : Int32) : Ct G yX4_addTablet (.code yX4_addTablet cX4_addTablet 2 (some .int)) 2 42 0 0 [.ref (B 0), .int p0] h (mR (st2 (inHa p0) (gT σ < 8)) (nI (gT σ)) σ (sAdd σ p0) B h) pxN := by
  refine (c_X4_addTablet hG hM hR p0).post (fun v h' q => ?_)
  rcases q with ⟨q1, q2, q3⟩ | ⟨q1, q2, q3, q4⟩ | ⟨q1, q2, rfl, q3⟩
  · exact MS_k (Or.inr (Or.inl ⟨rfl, q1⟩)) (by decide) q2 q3
  · exact MS_k (Or.inr (Or.inr ⟨rfl, q1, q2⟩)) (by decide) q3 q4
  · exact MS_0 (Or.inl ⟨rfl, q1, q2⟩) rfl q3
set_option maxHeartbeats 1000000 in
theorem n_write (hG : GOk G) (hN : GNc G) (hC : CS h A σ P r) (ho : h c = some (out1 o)) (dAc : ∀ i, i < nA σ → A i ≠ c) (p0 p1 p2 p3 p4 : Int32) : Ct G yL_write (.codeWith yL_write cL_write 8 (some .int) [(0, 16, 19, 21), (0, 16, 23, 13), (0, 16, 27, 15)]) 8 131 8 48 [.ref (A 0), .int p0, .int p1, .int p2, .int p3, .int p4, .ref c] h (cR Int32.toInt64 (st3 (wr1 σ p0 p1 p2 p4) (wr2 p1 p2 p3 p4) (wr3 σ p0 p1 p2 p4)) (nI (gn σ p0.toNatClampNeg)) σ (sWrite σ p0.toNatClampNeg p1 p2 p3 p4) A c h) pxN := by
  have hM : Ct G yX3_write (.code yX3_write cX3_write 8 (some .int)) 7 104 8 48 [.ref (A 0), .int p0, .int p1, .int p2, .int p3, .int p4] h (cN (st3 (wr1 σ p0 p1 p2 p4) (wr2 p1 p2 p3 p4) (wr3 σ p0 p1 p2 p4)) (nI (gn σ p0.toNatClampNeg)) σ (sWrite σ p0.toNatClampNeg p1 p2 p3 p4) A h) (cT (st3 (wr1 σ p0 p1 p2 p4) (wr2 p1 p2 p3 p4) (wr3 σ p0 p1 p2 p4)) σ A h cdIAS) := by
    refine (c_X3_write hG hC p0 p1 p2 p3 p4).conv (fun v h' q => ?_) (fun E h' q => ?_)
    · obtain ⟨q1, q2, q3, t, ht, rfl, rfl, hC', hk⟩ := q
      have t8 : t < 8 := Nat.lt_of_lt_of_le ht hC.2.1
      have et : (nI t).toNatClampNeg = t := nI_clamp (by omega)
      rw [et]
      exact ⟨Or.inl ⟨rfl, q1, q2, q3⟩, rfl, A, P, r, hC', exA.of hk⟩
    · obtain ⟨⟨rfl, q1⟩ | ⟨rfl, q1, q2⟩ | ⟨rfl, q1, q2, q3⟩, rfl⟩ := q
      · exact cT_IAS1 (Or.inr (Or.inl ⟨rfl, q1⟩)) hC kpC.rf
      · exact cT_IAS2 (Or.inr (Or.inr (Or.inl ⟨rfl, q1, q2⟩))) hC kpC.rf
      · exact cT_IAS3 (Or.inr (Or.inr (Or.inr ⟨rfl, q1, q2, q3⟩))) hC kpC.rf
  exact (w_write hG hN hM hC.2.2.1 (cN_v ho dAc) cT_dIAS).post (nR ho dAc)
set_option maxHeartbeats 1000000 in
theorem m_write (hG : GOk G) (hM : MO h B σ x u md hs) (hR : RM σ u) (p0 p1 p2 p3 p4 : Int32) : Ct G yX4_write (.code yX4_write cX4_write 7 (some .int)) 2 43 0 0 [.ref (B 0), .int p0, .int p1, .int p2, .int p3, .int p4] h (mR (st3 (wr1 σ p0 p1 p2 p4) (wr2 p1 p2 p3 p4) (wr3 σ p0 p1 p2 p4)) (nI (gn σ p0.toNatClampNeg)) σ (sWrite σ p0.toNatClampNeg p1 p2 p3 p4) B h) pxN := by
  refine (c_X4_write hG hM hR p0 p1 p2 p3 p4).post (fun v h' q => ?_)
  have w : mw1 σ p0 p1 p2 p4 ↔ wr1 σ p0 p1 p2 p4 := and_congr (inT_iff hR.1) Iff.rfl
  rcases q with ⟨q1, q2, q3⟩ | ⟨q1, q2, q3, q4⟩ | ⟨q1, q2, q3, q4, q5⟩ | ⟨q1, q2, q3, t, ht, rfl, rfl, q5⟩
  · exact MS_k (Or.inr (Or.inl ⟨rfl, fun z => q1 (w.mpr z)⟩)) (by decide) q2 q3
  · exact MS_k (Or.inr (Or.inr (Or.inl ⟨rfl, w.mp q1, q2⟩))) (by decide) q3 q4
  · exact MS_k (Or.inr (Or.inr (Or.inr ⟨rfl, w.mp q1, q2, q3⟩))) (by decide) q4 q5
  · have t8 : t < 8 := Nat.lt_of_lt_of_le ht hR.1
    have et : (nI t).toNatClampNeg = t := nI_clamp (by omega)
    rw [et]
    exact MS_0 (Or.inl ⟨rfl, w.mp q1, q2, q3⟩) rfl q5
set_option maxHeartbeats 1000000 in
theorem n_pay (hG : GOk G) (hN : GNc G) (hC : CS h A σ P r) (ho : h c = some (out1 o)) (dAc : ∀ i, i < nA σ → A i ≠ c) (p0 p1 p2 : Int32) : Ct G yL_pay (.codeWith yL_pay cL_pay 6 (some .int) [(0, 12, 15, 21), (0, 12, 19, 13)]) 9 152 3 18 [.ref (A 0), .int p0, .int p1, .int p2, .ref c] h (cR Int32.toInt64 (st2 (okL σ p0 p1) (py2 σ p0 p1 p2)) (gM σ p0.toNatClampNeg p1.toNatClampNeg - p2) σ (sPay σ p0.toNatClampNeg p1.toNatClampNeg p2) A c h) pxN := by
  have hM : Ct G yX3_pay (.code yX3_pay cX3_pay 6 (some .int)) 8 127 3 18 [.ref (A 0), .int p0, .int p1, .int p2] h (cN (st2 (okL σ p0 p1) (py2 σ p0 p1 p2)) (gM σ p0.toNatClampNeg p1.toNatClampNeg - p2) σ (sPay σ p0.toNatClampNeg p1.toNatClampNeg p2) A h) (cT (st2 (okL σ p0 p1) (py2 σ p0 p1 p2)) σ A h cdIA) := by
    refine (c_X3_pay hG hC p0 p1 p2).conv (fun v h' q => ?_) (fun E h' q => ?_)
    · obtain ⟨q1, q2, t, l, ht, hl, rfl, rfl, rfl, hC', hk⟩ := q
      have t8 : t < 8 := Nat.lt_of_lt_of_le ht hC.2.1
      have et : (nI t).toNatClampNeg = t := nI_clamp (by omega)
      have el : (nI l).toNatClampNeg = l := nI_clamp (by have := (hC.2.2.2.2.2.2.2.2 t ht).2.2; omega)
      rw [et, el]
      refine ⟨Or.inl ⟨rfl, q1, q2⟩, rfl, A, P, r, hC', ?_⟩
      have e : nA (sPay σ t l p2) = nA σ := by rw [nA, sPay_T]
      rw [e]
      exact exA.of hk
    · obtain ⟨⟨rfl, q1⟩ | ⟨rfl, q1, q2⟩ | ⟨rfl, q1, q2, q3⟩, rfl⟩ := q
      · exact cT_IA1 (Or.inr (Or.inl ⟨rfl, q1⟩)) hC kpC.rf
      · exact cT_IA2 (Or.inr (Or.inr ⟨rfl, q1, q2⟩)) hC kpC.rf
      · exact absurd trivial q3
  exact (w_pay hG hN hM hC.2.2.1 (cN_v ho dAc) cT_dIA).post (nR ho dAc)
set_option maxHeartbeats 1000000 in
theorem m_pay (hG : GOk G) (hM : MO h B σ x u md hs) (hR : RM σ u) (hP : ∀ t l, t < gT σ → l < gn σ t → ¬ gM σ t l < 0) (p0 p1 p2 : Int32) : Ct G yX4_pay (.code yX4_pay cX4_pay 5 (some .int)) 3 83 0 0 [.ref (B 0), .int p0, .int p1, .int p2] h (mR (st2 (okL σ p0 p1) (py2 σ p0 p1 p2)) (gM σ p0.toNatClampNeg p1.toNatClampNeg - p2) σ (sPay σ p0.toNatClampNeg p1.toNatClampNeg p2) B h) pxN := by
  refine (c_X4_pay hG hM hR hP p0 p1 p2).post (fun v h' q => ?_)
  have w : inL σ p0 p1 ↔ okL σ p0 p1 := (inL_iff hR.1 (fun t ht => (hR.mn ht).2.2))
  rcases q with ⟨q1, q2, q3⟩ | ⟨q1, q2, q3, q4⟩ | ⟨q1, q2, t, l, ht, hl, rfl, rfl, rfl, q5⟩
  · exact MS_k (Or.inr (Or.inl ⟨rfl, fun z => q1 (w.mpr z)⟩)) (by decide) q2 q3
  · exact MS_k (Or.inr (Or.inr ⟨rfl, w.mp q1, q2⟩)) (by decide) q3 q4
  · have t8 : t < 8 := Nat.lt_of_lt_of_le ht hR.1
    have et : (nI t).toNatClampNeg = t := nI_clamp (by omega)
    have el : (nI l).toNatClampNeg = l := nI_clamp (by have := (hR.mn ht).2.2; omega)
    rw [et, el]
    exact MS_0 (Or.inl ⟨rfl, w.mp q1, q2⟩) rfl q5
set_option maxHeartbeats 1000000 in
theorem n_deny (hG : GOk G) (hN : GNc G) (hC : CS h A σ P r) (ho : h c = some (out1 o)) (dAc : ∀ i, i < nA σ → A i ≠ c) (p0 p1 : Int32) : Ct G yL_deny (.codeWith yL_deny cL_deny 5 (some .int) [(0, 10, 13, 21), (0, 10, 17, 15)]) 9 151 4 24 [.ref (A 0), .int p0, .int p1, .ref c] h (cR Int32.toInt64 (st2 (okL σ p0 p1) (dy2 σ p0 p1)) (gM σ p0.toNatClampNeg p1.toNatClampNeg) σ (sDeny σ p0.toNatClampNeg p1.toNatClampNeg) A c h) pxN := by
  have hM : Ct G yX3_deny (.code yX3_deny cX3_deny 5 (some .int)) 8 127 4 24 [.ref (A 0), .int p0, .int p1] h (cN (st2 (okL σ p0 p1) (dy2 σ p0 p1)) (gM σ p0.toNatClampNeg p1.toNatClampNeg) σ (sDeny σ p0.toNatClampNeg p1.toNatClampNeg) A h) (cT (st2 (okL σ p0 p1) (dy2 σ p0 p1)) σ A h cdIS) := by
    refine (c_X3_deny hG hC p0 p1).conv (fun v h' q => ?_) (fun E h' q => ?_)
    · obtain ⟨q1, q2, t, l, ht, hl, rfl, rfl, rfl, hC', hk⟩ := q
      have t8 : t < 8 := Nat.lt_of_lt_of_le ht hC.2.1
      have et : (nI t).toNatClampNeg = t := nI_clamp (by omega)
      have el : (nI l).toNatClampNeg = l := nI_clamp (by have := (hC.2.2.2.2.2.2.2.2 t ht).2.2; omega)
      rw [et, el]
      exact ⟨Or.inl ⟨rfl, q1, q2⟩, rfl, A, P, r, hC', exA.of hk⟩
    · obtain ⟨⟨rfl, q1⟩ | ⟨rfl, q1, q2⟩ | ⟨rfl, q1, q2, q3⟩, rfl⟩ := q
      · exact cT_IS1 (Or.inr (Or.inl ⟨rfl, q1⟩)) hC kpC.rf
      · exact absurd trivial q2
      · exact cT_IS2 (Or.inr (Or.inr ⟨rfl, q1, q3⟩)) hC kpC.rf
  exact (w_deny hG hN hM hC.2.2.1 (cN_v ho dAc) cT_dIS).post (nR ho dAc)
set_option maxHeartbeats 1000000 in
theorem m_deny (hG : GOk G) (hM : MO h B σ x u md hs) (hR : RM σ u) (p0 p1 : Int32) : Ct G yX4_deny (.code yX4_deny cX4_deny 4 (some .int)) 3 82 0 0 [.ref (B 0), .int p0, .int p1] h (mR (st2 (okL σ p0 p1) (dy2 σ p0 p1)) (gM σ p0.toNatClampNeg p1.toNatClampNeg) σ (sDeny σ p0.toNatClampNeg p1.toNatClampNeg) B h) pxN := by
  refine (c_X4_deny hG hM hR p0 p1).post (fun v h' q => ?_)
  have w : inL σ p0 p1 ↔ okL σ p0 p1 := (inL_iff hR.1 (fun t ht => (hR.mn ht).2.2))
  rcases q with ⟨q1, q2, q3⟩ | ⟨q1, q2, q3, q4⟩ | ⟨q1, q2, t, l, ht, hl, rfl, rfl, rfl, q5⟩
  · exact MS_k (Or.inr (Or.inl ⟨rfl, fun z => q1 (w.mpr z)⟩)) (by decide) q2 q3
  · exact MS_k (Or.inr (Or.inr ⟨rfl, w.mp q1, q2⟩)) (by decide) q3 q4
  · have t8 : t < 8 := Nat.lt_of_lt_of_le ht hR.1
    have et : (nI t).toNatClampNeg = t := nI_clamp (by omega)
    have el : (nI l).toNatClampNeg = l := nI_clamp (by have := (hR.mn ht).2.2; omega)
    rw [et, el]
    exact MS_0 (Or.inl ⟨rfl, w.mp q1, q2⟩) rfl q5
abbrev smO (σ : Sg) (t : Nat) : Prop := (pr (gth σ) 8 (gbal σ t)).1 = true
set_option maxHeartbeats 1000000 in
theorem n_smooth (hG : GOk G) (hN : GNc G) (hC : CS h A σ P r) (ho : h c = some (out1 o)) (dAc : ∀ i, i < nA σ → A i ≠ c) (p0 : Int32) : Ct G yL_smooth (.codeWith yL_smooth cL_smooth 4 (some .int) [(0, 9, 12, 21), (0, 9, 15, 15)]) 8 126 2 12 [.ref (A 0), .int p0, .ref c] h (cR Int32.toInt64 (st2 (okT σ p0) (smO σ p0.toNatClampNeg)) (nI (pn (smP σ P p0.toNatClampNeg))) σ (sSm σ P p0.toNatClampNeg) A c h) pxN := by
  have hM : Ct G yX3_smooth (.code yX3_smooth cX3_smooth 3 (some .int)) 7 104 2 12 [.ref (A 0), .int p0] h (cN (st2 (okT σ p0) (smO σ p0.toNatClampNeg)) (nI (pn (smP σ P p0.toNatClampNeg))) σ (sSm σ P p0.toNatClampNeg) A h) (cT (st2 (okT σ p0) (smO σ p0.toNatClampNeg)) σ A h cdIS) := by
    refine (c_X3_smooth hG hC p0).conv (fun v h' q => ?_) (fun E h' q => ?_)
    · obtain ⟨t, ht, rfl, q1, rfl, hC', hk⟩ := q
      have t8 : t < 8 := Nat.lt_of_lt_of_le ht hC.2.1
      have et : (nI t).toNatClampNeg = t := nI_clamp (by omega)
      rw [et]
      exact ⟨Or.inl ⟨rfl, ⟨t, ht, rfl⟩, q1⟩, rfl, A, _, r, hC', exA.of hk⟩
    · rcases q with ⟨rfl, q1, rfl⟩ | ⟨rfl, t, ht, rfl, q1, hC', hk⟩
      · exact cT_IS1 (Or.inr (Or.inl ⟨rfl, q1⟩)) hC kpC.rf
      · have t8 : t < 8 := Nat.lt_of_lt_of_le ht hC.2.1
        have et : (nI t).toNatClampNeg = t := nI_clamp (by omega)
        rw [et]
        exact cT_IS2 (Or.inr (Or.inr ⟨rfl, ⟨t, ht, rfl⟩, q1⟩)) hC' hk
  exact (w_smooth hG hN hM hC.2.2.1 (cN_v ho dAc) cT_dIS).post (nR ho dAc)
set_option maxHeartbeats 1000000 in
theorem m_smooth (hG : GOk G) (hM : MO h B σ x u md hs) (hR : RM σ u) (hE : PEA σ) (hQ : PLQ σ) (P : PS) (p0 : Int32) : Ct G yX4_smooth (.code yX4_smooth cX4_smooth 3 (some .int)) 4 92 0 0 [.ref (B 0), .int p0] h (mR (st2 (okT σ p0) (smO σ p0.toNatClampNeg)) (nI (pn (smP σ P p0.toNatClampNeg))) σ (sSm σ P p0.toNatClampNeg) B h) pxN := by
  refine (c_X4_smooth hG hM hR hE hQ p0).post (fun v h' q => ?_)
  rcases q with ⟨q1, q2, q3⟩ | ⟨t, g, s, ht, rfl, hg, rfl, q⟩
  · exact MS_k (Or.inr (Or.inl ⟨rfl, fun z => q1 ((inT_iff hR.1).mpr z)⟩)) (by decide) q2 q3
  · have t8 : t < 8 := Nat.lt_of_lt_of_le ht hR.1
    have et : (nI t).toNatClampNeg = t := nI_clamp (by omega)
    obtain ⟨e1, e2, e3⟩ := sm_same (h := h) (h' := h') (B := B) (k := 0) (P := P) (md := md) hg
    rw [et]
    rcases q with ⟨q1, q2, q3⟩ | ⟨q1, rfl, q3⟩
    · exact MS_k (Or.inr (Or.inr ⟨rfl, ⟨t, ht, rfl⟩, fun z => q1 (e1.trans z)⟩)) (by decide) q2 q3
    · exact MS_0 (Or.inl ⟨rfl, ⟨t, ht, rfl⟩, e1.symm.trans q1⟩) (by rw [e2]) (e3 q3)
set_option maxHeartbeats 1000000 in
theorem n_turn (hG : GOk G) (hN : GNc G) (hC : CS h A σ P r) (ho : h c = some (out1 o)) (dAc : ∀ i, i < nA σ → A i ≠ c) (p0 : Int32) : Ct G yL_turn (.codeWith yL_turn cL_turn 4 (some .int) [(0, 16, 19, 21)]) 8 123 1 6 [.ref (A 0), .int p0, .ref c] h (cR φ1 (st1 (inP p0)) (ng (gth σ p0.toNatClampNeg)) σ (sTh σ (upd (gth σ) p0.toNatClampNeg (ng (gth σ p0.toNatClampNeg)))) A c h) pxN := by
  have hM : Ct G yX3_turn (.code yX3_turn cX3_turn 2 (some .boolean)) 7 102 1 6 [.ref (A 0), .int p0] h (cN (st1 (inP p0)) (ng (gth σ p0.toNatClampNeg)) σ (sTh σ (upd (gth σ) p0.toNatClampNeg (ng (gth σ p0.toNatClampNeg)))) A h) (cT (st1 (inP p0)) σ A h cdI) := by
    refine (c_X3_turn hG hC p0).conv (fun v h' q => ?_) (fun E h' q => ?_)
    · obtain ⟨p, hp, rfl, rfl, hC', hk⟩ := q
      have et : (nI p).toNatClampNeg = p := nI_clamp (by omega)
      rw [et]
      exact ⟨Or.inl ⟨rfl, inP_nI hp⟩, rfl, A, P, r, hC', exA.of hk⟩
    · obtain ⟨rfl, q1, rfl⟩ := q
      exact cT_I (Or.inr ⟨rfl, q1⟩) hC kpC.rf
  exact (w_turn hG hN hM hC.2.2.1 (cN_v ho dAc) cT_dI).post (nR ho dAc)
set_option maxHeartbeats 1000000 in
theorem m_turn (hG : GOk G) (hM : MO h B σ x u md hs) (hR : RM σ u) (p0 : Int32) : Ct G yX4_turn (.code yX4_turn cX4_turn 2 (some .boolean)) 2 42 0 0 [.ref (B 0), .int p0] h (mR (st1 (inP p0)) (ng (gth σ p0.toNatClampNeg)) σ (sTh σ (upd (gth σ) p0.toNatClampNeg (ng (gth σ p0.toNatClampNeg)))) B h) pxN := by
  refine (c_X4_turn hG hM hR p0).post (fun v h' q => ?_)
  rcases q with ⟨q1, q2, q3⟩ | ⟨q1, rfl, q3⟩
  · exact MS_k (Or.inr ⟨rfl, q1⟩) (by decide) q2 q3
  · exact MS_0 (Or.inl ⟨rfl, q1⟩) rfl q3
set_option maxHeartbeats 1000000 in
theorem n_carry (hG : GOk G) (hN : GNc G) (hC : CS h A σ P r) (ho : h c = some (out1 o)) (dAc : ∀ i, i < nA σ → A i ≠ c) (p0 : Int32) : Ct G yL_carry (.codeWith yL_carry cL_carry 4 (some .int) [(0, 16, 19, 21)]) 8 126 2 12 [.ref (A 0), .int p0, .ref c] h (cR φ1 (st1 (okT σ p0)) (ng (gce σ p0.toNatClampNeg)) σ (sTab σ p0.toNatClampNeg (gha σ p0.toNatClampNeg) (ng (gce σ p0.toNatClampNeg)) (gn σ p0.toNatClampNeg) (gDD σ p0.toNatClampNeg) (gC σ p0.toNatClampNeg) (gM σ p0.toNatClampNeg) (gW σ p0.toNatClampNeg)) A c h) pxN := by
  have hM : Ct G yX3_carry (.code yX3_carry cX3_carry 3 (some .boolean)) 7 104 2 12 [.ref (A 0), .int p0] h (cN (st1 (okT σ p0)) (ng (gce σ p0.toNatClampNeg)) σ (sTab σ p0.toNatClampNeg (gha σ p0.toNatClampNeg) (ng (gce σ p0.toNatClampNeg)) (gn σ p0.toNatClampNeg) (gDD σ p0.toNatClampNeg) (gC σ p0.toNatClampNeg) (gM σ p0.toNatClampNeg) (gW σ p0.toNatClampNeg)) A h) (cT (st1 (okT σ p0)) σ A h cdI) := by
    refine (c_X3_carry hG hC p0).conv (fun v h' q => ?_) (fun E h' q => ?_)
    · obtain ⟨t, ht, rfl, rfl, hC', hk⟩ := q
      have t8 : t < 8 := Nat.lt_of_lt_of_le ht hC.2.1
      have et : (nI t).toNatClampNeg = t := nI_clamp (by omega)
      rw [et]
      exact ⟨Or.inl ⟨rfl, t, ht, rfl⟩, rfl, A, P, r, hC', exA.of hk⟩
    · obtain ⟨rfl, q1, rfl⟩ := q
      exact cT_I (Or.inr ⟨rfl, q1⟩) hC kpC.rf
  exact (w_carry hG hN hM hC.2.2.1 (cN_v ho dAc) cT_dI).post (nR ho dAc)
set_option maxHeartbeats 1000000 in
theorem m_carry (hG : GOk G) (hM : MO h B σ x u md hs) (hR : RM σ u) (p0 : Int32) : Ct G yX4_carry (.code yX4_carry cX4_carry 2 (some .boolean)) 2 43 0 0 [.ref (B 0), .int p0] h (mR (st1 (okT σ p0)) (ng (gce σ p0.toNatClampNeg)) σ (sTab σ p0.toNatClampNeg (gha σ p0.toNatClampNeg) (ng (gce σ p0.toNatClampNeg)) (gn σ p0.toNatClampNeg) (gDD σ p0.toNatClampNeg) (gC σ p0.toNatClampNeg) (gM σ p0.toNatClampNeg) (gW σ p0.toNatClampNeg)) B h) pxN := by
  refine (c_X4_carry hG hM hR p0).post (fun v h' q => ?_)
  rcases q with ⟨q1, q2, q3⟩ | ⟨q1, t, ht, rfl, rfl, q3⟩
  · exact MS_k (Or.inr ⟨rfl, fun z => q1 ((inT_iff hR.1).mpr z)⟩) (by decide) q2 q3
  · have t8 : t < 8 := Nat.lt_of_lt_of_le ht hR.1
    have et : (nI t).toNatClampNeg = t := nI_clamp (by omega)
    rw [et]
    exact MS_0 (Or.inl ⟨rfl, t, ht, rfl⟩) rfl q3
set_option maxHeartbeats 1000000 in
theorem n_setHeat (hG : GOk G) (hN : GNc G) (hC : CS h A σ P r) (ho : h c = some (out1 o)) (dAc : ∀ i, i < nA σ → A i ≠ c) (p0 p1 : Int32) : Ct G yL_setHeat (.codeWith yL_setHeat cL_setHeat 5 (some .int) [(0, 10, 13, 21), (0, 10, 17, 13)]) 7 105 1 6 [.ref (A 0), .int p0, .int p1, .ref c] h (cR Int32.toInt64 (st2 (inH p0) (inE p1)) (ghe σ p0.toNatClampNeg) σ (sHe σ (upd (ghe σ) p0.toNatClampNeg p1)) A c h) pxN := by
  have hM : Ct G yX3_setHeat (.code yX3_setHeat cX3_setHeat 4 (some .int)) 6 82 1 6 [.ref (A 0), .int p0, .int p1] h (cN (st2 (inH p0) (inE p1)) (ghe σ p0.toNatClampNeg) σ (sHe σ (upd (ghe σ) p0.toNatClampNeg p1)) A h) (cT (st2 (inH p0) (inE p1)) σ A h cdIA) := by
    refine (c_X3_setHeat hG hC p0 p1).conv (fun v h' q => ?_) (fun E h' q => ?_)
    · obtain ⟨k, hk10, rfl, q2, rfl, hC', hk⟩ := q
      have et : (nI k).toNatClampNeg = k := nI_clamp (by omega)
      rw [et]
      exact ⟨Or.inl ⟨rfl, ⟨nI_pos (by omega), (nI_ltI (a := k) (b := 10) (by omega) (by decide)).mpr hk10⟩, q2⟩, rfl, A, P, r, hC', exA.of hk⟩
    · obtain ⟨⟨rfl, q1⟩ | ⟨rfl, q1, q2⟩, rfl⟩ := q
      · exact cT_IA1 (Or.inr (Or.inl ⟨rfl, q1⟩)) hC kpC.rf
      · exact cT_IA2 (Or.inr (Or.inr ⟨rfl, q1, q2⟩)) hC kpC.rf
  exact (w_setHeat hG hN hM hC.2.2.1 (cN_v ho dAc) cT_dIA).post (nR ho dAc)
set_option maxHeartbeats 1000000 in
theorem m_setHeat (hG : GOk G) (hM : MO h B σ x u md hs) (hR : RM σ u) (p0 p1 : Int32) : Ct G yX4_setHeat (.code yX4_setHeat cX4_setHeat 4 (some .int)) 2 42 0 0 [.ref (B 0), .int p0, .int p1] h (mR (st2 (inH p0) (inE p1)) (ghe σ p0.toNatClampNeg) σ (sHe σ (upd (ghe σ) p0.toNatClampNeg p1)) B h) pxN := by
  refine (c_X4_setHeat hG hM hR p0 p1).post (fun v h' q => ?_)
  rcases q with ⟨q1, q2, q3⟩ | ⟨q1, q2, q3, q4⟩ | ⟨q1, q2, rfl, q3⟩
  · exact MS_k (Or.inr (Or.inl ⟨rfl, q1⟩)) (by decide) q2 q3
  · exact MS_k (Or.inr (Or.inr ⟨rfl, q1, q2⟩)) (by decide) q3 q4
  · exact MS_0 (Or.inl ⟨rfl, q1, q2⟩) rfl q3
set_option maxHeartbeats 1000000 in
theorem n_pass (hG : GOk G) (hN : GNc G) (hC : CS h A σ P r) (ho : h c = some (out1 o)) (dAc : ∀ i, i < nA σ → A i ≠ c) (hy : gy σ < 2 ^ 29) (p0 : Int32) : Ct G yL_pass (.codeWith yL_pass cL_pass 4 (some .int) [(0, 9, 12, 13)]) 8 125 1 6 [.ref (A 0), .int p0, .ref c] h (cR Int32.toInt64 (st1 (inY p0)) (goN p0.toNatClampNeg σ) σ (sPass σ p0.toNatClampNeg) A c h) pxN := by
  have hM : Ct G yX3_pass (.code yX3_pass cX3_pass 4 (some .int)) 7 102 1 6 [.ref (A 0), .int p0] h (cN (st1 (inY p0)) (goN p0.toNatClampNeg σ) σ (sPass σ p0.toNatClampNeg) A h) (cT (st1 (inY p0)) σ A h cdA) := by
    refine (c_X3_pass hG hC hy p0).conv (fun v h' q => ?_) (fun E h' q => ?_)
    · obtain ⟨n, hn, rfl, q1, rfl, hC', hk⟩ := q
      have et : (nI n).toNatClampNeg = n := nI_clamp (by omega)
      rw [et]
      refine ⟨Or.inl ⟨rfl, q1⟩, rfl, A, P, r, hC', ?_⟩
      have e : nA (sPass σ n) = nA σ := by
        show 12 + 6 * gT (yrN n σ) = 12 + 6 * gT σ
        rw [yrN_T]
      rw [e]
      exact exA.of hk
    · obtain ⟨rfl, q1, rfl⟩ := q
      exact cT_A (Or.inr ⟨rfl, q1⟩) hC kpC.rf
  exact (w_pass hG hN hM hC.2.2.1 (cN_v ho dAc) cT_dA).post (nR ho dAc)
set_option maxHeartbeats 1000000 in
theorem m_pass (hG : GOk G) (hM : MO h B σ x u md hs) (hR : RM σ u) (hy : gy σ < 2 ^ 29) (p0 : Int32) : Ct G yX4_pass (.code yX4_pass cX4_pass 5 (some .int)) 2 42 0 0 [.ref (B 0), .int p0] h (mR (st1 (inY p0)) (goN p0.toNatClampNeg σ) σ (sPass σ p0.toNatClampNeg) B h) pxN := by
  refine (c_X4_pass hG hM hR hy p0).post (fun v h' q => ?_)
  rcases q with ⟨q1, q2, q3⟩ | ⟨q1, n, hn, rfl, rfl, q3⟩
  · exact MS_k (Or.inr ⟨rfl, q1⟩) (by decide) q2 q3
  · have et : (nI n).toNatClampNeg = n := nI_clamp (by omega)
    rw [et]
    exact MS_0 (Or.inl ⟨rfl, q1⟩) rfl q3
set_option maxHeartbeats 1000000 in
theorem n_isThere (hG : GOk G) (hN : GNc G) (hC : CS h A σ P r) (ho : h c = some (out1 o)) (dAc : ∀ i, i < nA σ → A i ≠ c) (hz : ∀ p, p < 8 → b01 (gth σ p)) (p0 : Int32) : Ct G yL_isThere (.codeWith yL_isThere cL_isThere 4 (some .int) [(0, 16, 19, 21)]) 8 123 1 6 [.ref (A 0), .int p0, .ref c] h (cR φ1 (st1 (inP p0)) (gth σ p0.toNatClampNeg) σ (σ) A c h) pxN := by
  have hM : Ct G yX3_isThere (.code yX3_isThere cX3_isThere 2 (some .boolean)) 7 102 1 6 [.ref (A 0), .int p0] h (cN (st1 (inP p0)) (gth σ p0.toNatClampNeg) σ (σ) A h) (cT (st1 (inP p0)) σ A h cdI) := by
    refine (c_X3_isThere hG hC p0 hz).conv (fun v h' q => ?_) (fun E h' q => ?_)
    · obtain ⟨⟨p, hp, rfl, rfl⟩, rfl⟩ := q
      have et : (nI p).toNatClampNeg = p := nI_clamp (by omega)
      exact ⟨Or.inl ⟨rfl, inP_nI hp⟩, by rw [et], A, P, r, hC, exA.of kpC.rf⟩
    · obtain ⟨rfl, q1, rfl⟩ := q
      exact cT_I (Or.inr ⟨rfl, q1⟩) hC kpC.rf
  exact (w_isThere hG hN hM hC.2.2.1 (cN_v ho dAc) cT_dI).post (nR ho dAc)
set_option maxHeartbeats 1000000 in
theorem m_isThere (hG : GOk G) (hM : MO h B σ x u md hs) (hR : RM σ u) (p0 : Int32) : Ct G yX4_isThere (.code yX4_isThere cX4_isThere 2 (some .boolean)) 2 42 0 0 [.ref (B 0), .int p0] h (mR (st1 (inP p0)) (gth σ p0.toNatClampNeg) σ (σ) B h) pxN := by
  exact (c_X4_isThere hG hM hR p0).post (mq_mR hR Iff.rfl (fun _ => rfl))
set_option maxHeartbeats 1000000 in
theorem n_linesOf (hG : GOk G) (hN : GNc G) (hC : CS h A σ P r) (ho : h c = some (out1 o)) (dAc : ∀ i, i < nA σ → A i ≠ c) (p0 : Int32) : Ct G yL_linesOf (.codeWith yL_linesOf cL_linesOf 4 (some .int) [(0, 9, 12, 21)]) 8 125 2 12 [.ref (A 0), .int p0, .ref c] h (cR Int32.toInt64 (st1 (okT σ p0)) (nI (gn σ p0.toNatClampNeg)) σ (σ) A c h) pxN := by
  have hM : Ct G yX3_linesOf (.code yX3_linesOf cX3_linesOf 2 (some .int)) 7 104 2 12 [.ref (A 0), .int p0] h (cN (st1 (okT σ p0)) (nI (gn σ p0.toNatClampNeg)) σ (σ) A h) (cT (st1 (okT σ p0)) σ A h cdI) := by
    refine (c_X3_linesOf hG hC p0).conv (fun v h' q => ?_) (fun E h' q => ?_)
    · obtain ⟨⟨t, ht, rfl, rfl⟩, rfl⟩ := q
      have t8 : t < 8 := Nat.lt_of_lt_of_le ht hC.2.1
      have et : (nI t).toNatClampNeg = t := nI_clamp (by omega)
      exact ⟨Or.inl ⟨rfl, t, ht, rfl⟩, by rw [et], A, P, r, hC, exA.of kpC.rf⟩
    · obtain ⟨rfl, q1, rfl⟩ := q
      exact cT_I (Or.inr ⟨rfl, q1⟩) hC kpC.rf
  exact (w_linesOf hG hN hM hC.2.2.1 (cN_v ho dAc) cT_dI).post (nR ho dAc)
set_option maxHeartbeats 1000000 in
theorem m_linesOf (hG : GOk G) (hM : MO h B σ x u md hs) (hR : RM σ u) (p0 : Int32) : Ct G yX4_linesOf (.code yX4_linesOf cX4_linesOf 2 (some .int)) 2 43 0 0 [.ref (B 0), .int p0] h (mR (st1 (okT σ p0)) (nI (gn σ p0.toNatClampNeg)) σ (σ) B h) pxN := by
  exact (c_X4_linesOf hG hM hR p0).post (mq_mR hR (inT_iff hR.1) (fun _ => rfl))
set_option maxHeartbeats 1000000 in
theorem n_isInCellar (hG : GOk G) (hN : GNc G) (hC : CS h A σ P r) (ho : h c = some (out1 o)) (dAc : ∀ i, i < nA σ → A i ≠ c) (hz : ∀ t, t < gT σ → b01 (gce σ t)) (p0 : Int32) : Ct G yL_isInCellar (.codeWith yL_isInCellar cL_isInCellar 4 (some .int) [(0, 16, 19, 21)]) 8 125 2 12 [.ref (A 0), .int p0, .ref c] h (cR φ1 (st1 (okT σ p0)) (gce σ p0.toNatClampNeg) σ (σ) A c h) pxN := by
  have hM : Ct G yX3_isInCellar (.code yX3_isInCellar cX3_isInCellar 2 (some .boolean)) 7 104 2 12 [.ref (A 0), .int p0] h (cN (st1 (okT σ p0)) (gce σ p0.toNatClampNeg) σ (σ) A h) (cT (st1 (okT σ p0)) σ A h cdI) := by
    refine (c_X3_isInCellar hG hC p0 hz).conv (fun v h' q => ?_) (fun E h' q => ?_)
    · obtain ⟨⟨t, ht, rfl, rfl⟩, rfl⟩ := q
      have t8 : t < 8 := Nat.lt_of_lt_of_le ht hC.2.1
      have et : (nI t).toNatClampNeg = t := nI_clamp (by omega)
      exact ⟨Or.inl ⟨rfl, t, ht, rfl⟩, by rw [et], A, P, r, hC, exA.of kpC.rf⟩
    · obtain ⟨rfl, q1, rfl⟩ := q
      exact cT_I (Or.inr ⟨rfl, q1⟩) hC kpC.rf
  exact (w_isInCellar hG hN hM hC.2.2.1 (cN_v ho dAc) cT_dI).post (nR ho dAc)
set_option maxHeartbeats 1000000 in
theorem m_isInCellar (hG : GOk G) (hM : MO h B σ x u md hs) (hR : RM σ u) (p0 : Int32) : Ct G yX4_isInCellar (.code yX4_isInCellar cX4_isInCellar 2 (some .boolean)) 2 43 0 0 [.ref (B 0), .int p0] h (mR (st1 (okT σ p0)) (gce σ p0.toNatClampNeg) σ (σ) B h) pxN := by
  exact (c_X4_isInCellar hG hM hR p0).post (mq_mR hR (inT_iff hR.1) (fun _ => rfl))
set_option maxHeartbeats 1000000 in
theorem n_debtorOf (hG : GOk G) (hN : GNc G) (hC : CS h A σ P r) (ho : h c = some (out1 o)) (dAc : ∀ i, i < nA σ → A i ≠ c) (p0 p1 : Int32) : Ct G yL_debtorOf (.codeWith yL_debtorOf cL_debtorOf 5 (some .int) [(0, 10, 13, 21)]) 9 149 3 18 [.ref (A 0), .int p0, .int p1, .ref c] h (cR Int32.toInt64 (st1 (okL σ p0 p1)) (gDD σ p0.toNatClampNeg p1.toNatClampNeg) σ (σ) A c h) pxN := by
  have hM : Ct G yX3_debtorOf (.code yX3_debtorOf cX3_debtorOf 3 (some .int)) 8 127 3 18 [.ref (A 0), .int p0, .int p1] h (cN (st1 (okL σ p0 p1)) (gDD σ p0.toNatClampNeg p1.toNatClampNeg) σ (σ) A h) (cT (st1 (okL σ p0 p1)) σ A h cdI) := by
    refine (c_X3_debtorOf hG hC p0 p1).conv (fun v h' q => ?_) (fun E h' q => ?_)
    · obtain ⟨⟨t, l, ht, hl, rfl, rfl, rfl⟩, rfl⟩ := q
      have t8 : t < 8 := Nat.lt_of_lt_of_le ht hC.2.1
      have et : (nI t).toNatClampNeg = t := nI_clamp (by omega)
      have el : (nI l).toNatClampNeg = l := nI_clamp (by have := (hC.2.2.2.2.2.2.2.2 t ht).2.2; omega)
      exact ⟨Or.inl ⟨rfl, t, l, ht, hl, rfl, rfl⟩, by rw [et, el], A, P, r, hC, exA.of kpC.rf⟩
    · obtain ⟨rfl, q1, rfl⟩ := q
      exact cT_I (Or.inr ⟨rfl, q1⟩) hC kpC.rf
  exact (w_debtorOf hG hN hM hC.2.2.1 (cN_v ho dAc) cT_dI).post (nR ho dAc)
set_option maxHeartbeats 1000000 in
theorem m_debtorOf (hG : GOk G) (hM : MO h B σ x u md hs) (hR : RM σ u) (p0 p1 : Int32) : Ct G yX4_debtorOf (.code yX4_debtorOf cX4_debtorOf 3 (some .int)) 4 88 0 0 [.ref (B 0), .int p0, .int p1] h (mR (st1 (okL σ p0 p1)) (gDD σ p0.toNatClampNeg p1.toNatClampNeg) σ (σ) B h) pxN := by
  exact (c_X4_debtorOf hG hM hR p0 p1).post (mq_mR hR (inL_iff hR.1 (fun t ht => (hR.mn ht).2.2)) (fun _ => rfl))
set_option maxHeartbeats 1000000 in
theorem n_creditorOf (hG : GOk G) (hN : GNc G) (hC : CS h A σ P r) (ho : h c = some (out1 o)) (dAc : ∀ i, i < nA σ → A i ≠ c) (p0 p1 : Int32) : Ct G yL_creditorOf (.codeWith yL_creditorOf cL_creditorOf 5 (some .int) [(0, 10, 13, 21)]) 9 149 3 18 [.ref (A 0), .int p0, .int p1, .ref c] h (cR Int32.toInt64 (st1 (okL σ p0 p1)) (gC σ p0.toNatClampNeg p1.toNatClampNeg) σ (σ) A c h) pxN := by
  have hM : Ct G yX3_creditorOf (.code yX3_creditorOf cX3_creditorOf 3 (some .int)) 8 127 3 18 [.ref (A 0), .int p0, .int p1] h (cN (st1 (okL σ p0 p1)) (gC σ p0.toNatClampNeg p1.toNatClampNeg) σ (σ) A h) (cT (st1 (okL σ p0 p1)) σ A h cdI) := by
    refine (c_X3_creditorOf hG hC p0 p1).conv (fun v h' q => ?_) (fun E h' q => ?_)
    · obtain ⟨⟨t, l, ht, hl, rfl, rfl, rfl⟩, rfl⟩ := q
      have t8 : t < 8 := Nat.lt_of_lt_of_le ht hC.2.1
      have et : (nI t).toNatClampNeg = t := nI_clamp (by omega)
      have el : (nI l).toNatClampNeg = l := nI_clamp (by have := (hC.2.2.2.2.2.2.2.2 t ht).2.2; omega)
      exact ⟨Or.inl ⟨rfl, t, l, ht, hl, rfl, rfl⟩, by rw [et, el], A, P, r, hC, exA.of kpC.rf⟩
    · obtain ⟨rfl, q1, rfl⟩ := q
      exact cT_I (Or.inr ⟨rfl, q1⟩) hC kpC.rf
  exact (w_creditorOf hG hN hM hC.2.2.1 (cN_v ho dAc) cT_dI).post (nR ho dAc)
set_option maxHeartbeats 1000000 in
theorem m_creditorOf (hG : GOk G) (hM : MO h B σ x u md hs) (hR : RM σ u) (p0 p1 : Int32) : Ct G yX4_creditorOf (.code yX4_creditorOf cX4_creditorOf 3 (some .int)) 4 88 0 0 [.ref (B 0), .int p0, .int p1] h (mR (st1 (okL σ p0 p1)) (gC σ p0.toNatClampNeg p1.toNatClampNeg) σ (σ) B h) pxN := by
  exact (c_X4_creditorOf hG hM hR p0 p1).post (mq_mR hR (inL_iff hR.1 (fun t ht => (hR.mn ht).2.2)) (fun _ => rfl))
set_option maxHeartbeats 1000000 in
theorem n_amountOf (hG : GOk G) (hN : GNc G) (hC : CS h A σ P r) (ho : h c = some (out1 o)) (dAc : ∀ i, i < nA σ → A i ≠ c) (p0 p1 : Int32) : Ct G yL_amountOf (.codeWith yL_amountOf cL_amountOf 5 (some .int) [(0, 10, 13, 21)]) 9 149 3 18 [.ref (A 0), .int p0, .int p1, .ref c] h (cR Int32.toInt64 (st1 (okL σ p0 p1)) (gM σ p0.toNatClampNeg p1.toNatClampNeg) σ (σ) A c h) pxN := by
  have hM : Ct G yX3_amountOf (.code yX3_amountOf cX3_amountOf 3 (some .int)) 8 127 3 18 [.ref (A 0), .int p0, .int p1] h (cN (st1 (okL σ p0 p1)) (gM σ p0.toNatClampNeg p1.toNatClampNeg) σ (σ) A h) (cT (st1 (okL σ p0 p1)) σ A h cdI) := by
    refine (c_X3_amountOf hG hC p0 p1).conv (fun v h' q => ?_) (fun E h' q => ?_)
    · obtain ⟨⟨t, l, ht, hl, rfl, rfl, rfl⟩, rfl⟩ := q
      have t8 : t < 8 := Nat.lt_of_lt_of_le ht hC.2.1
      have et : (nI t).toNatClampNeg = t := nI_clamp (by omega)
      have el : (nI l).toNatClampNeg = l := nI_clamp (by have := (hC.2.2.2.2.2.2.2.2 t ht).2.2; omega)
      exact ⟨Or.inl ⟨rfl, t, l, ht, hl, rfl, rfl⟩, by rw [et, el], A, P, r, hC, exA.of kpC.rf⟩
    · obtain ⟨rfl, q1, rfl⟩ := q
      exact cT_I (Or.inr ⟨rfl, q1⟩) hC kpC.rf
  exact (w_amountOf hG hN hM hC.2.2.1 (cN_v ho dAc) cT_dI).post (nR ho dAc)
set_option maxHeartbeats 1000000 in
theorem m_amountOf (hG : GOk G) (hM : MO h B σ x u md hs) (hR : RM σ u) (p0 p1 : Int32) : Ct G yX4_amountOf (.code yX4_amountOf cX4_amountOf 3 (some .int)) 4 88 0 0 [.ref (B 0), .int p0, .int p1] h (mR (st1 (okL σ p0 p1)) (gM σ p0.toNatClampNeg p1.toNatClampNeg) σ (σ) B h) pxN := by
  exact (c_X4_amountOf hG hM hR p0 p1).post (mq_mR hR (inL_iff hR.1 (fun t ht => (hR.mn ht).2.2)) (fun _ => rfl))
set_option maxHeartbeats 1000000 in
theorem n_isWitnessed (hG : GOk G) (hN : GNc G) (hC : CS h A σ P r) (ho : h c = some (out1 o)) (dAc : ∀ i, i < nA σ → A i ≠ c) (hR : RM σ u) (p0 p1 : Int32) : Ct G yL_isWitnessed (.codeWith yL_isWitnessed cL_isWitnessed 5 (some .int) [(0, 17, 20, 21)]) 9 149 3 18 [.ref (A 0), .int p0, .int p1, .ref c] h (cR φ1 (st1 (okL σ p0 p1)) (gth σ (gW σ p0.toNatClampNeg p1.toNatClampNeg).toNatClampNeg) σ (σ) A c h) pxN := by
  have hM : Ct G yX3_isWitnessed (.code yX3_isWitnessed cX3_isWitnessed 3 (some .boolean)) 8 127 3 18 [.ref (A 0), .int p0, .int p1] h (cN (st1 (okL σ p0 p1)) (gth σ (gW σ p0.toNatClampNeg p1.toNatClampNeg).toNatClampNeg) σ (σ) A h) (cT (st1 (okL σ p0 p1)) σ A h cdI) := by
    refine (c_X3_isWitnessed hG hC p0 p1).conv (fun v h' q => ?_) (fun E h' q => ?_)
    · obtain ⟨⟨t, l, ht, hl, rfl, rfl, rfl⟩, rfl⟩ := q
      have t8 : t < 8 := Nat.lt_of_lt_of_le ht hC.2.1
      have et : (nI t).toNatClampNeg = t := nI_clamp (by omega)
      have el : (nI l).toNatClampNeg = l := nI_clamp (by have := (hC.2.2.2.2.2.2.2.2 t ht).2.2; omega)
      have e : tf (inP (gW σ t l) ∧ ¬ gth σ (gW σ t l).toNatClampNeg = 0) = gth σ (gW σ t l).toNatClampNeg := by
        obtain ⟨-, -, -, -, -, -, -, -, rW, -⟩ := hR.row ht hl
        obtain ⟨p, hp, ep⟩ := inP_of rW
        have epc : (gW σ t l).toNatClampNeg = p := by rw [ep]; exact nI_clamp (by omega)
        rw [epc]
        rcases (hR.2.1 p hp).2 with z | z
        · rw [z, tf, if_neg (fun q => q.2 rfl)]
        · rw [z, tf, if_pos ⟨rW, by decide⟩]
      exact ⟨Or.inl ⟨rfl, t, l, ht, hl, rfl, rfl⟩, by rw [et, el, e], A, P, r, hC, exA.of kpC.rf⟩
    · obtain ⟨rfl, q1, rfl⟩ := q
      exact cT_I (Or.inr ⟨rfl, q1⟩) hC kpC.rf
  exact (w_isWitnessed hG hN hM hC.2.2.1 (cN_v ho dAc) cT_dI).post (nR ho dAc)
set_option maxHeartbeats 1000000 in
theorem m_isWitnessed (hG : GOk G) (hM : MO h B σ x u md hs) (hR : RM σ u) (p0 p1 : Int32) : Ct G yX4_isWitnessed (.code yX4_isWitnessed cX4_isWitnessed 3 (some .boolean)) 3 65 0 0 [.ref (B 0), .int p0, .int p1] h (mR (st1 (okL σ p0 p1)) (gth σ (gW σ p0.toNatClampNeg p1.toNatClampNeg).toNatClampNeg) σ (σ) B h) pxN := by
  exact (c_X4_isWitnessed hG hM hR p0 p1).post (mq_mR hR (inL_iff hR.1 (fun t ht => (hR.mn ht).2.2)) (fun _ => rfl))
set_option maxHeartbeats 1000000 in
theorem n_has (hG : GOk G) (hN : GNc G) (hC : CS h A σ P r) (ho : h c = some (out1 o)) (dAc : ∀ i, i < nA σ → A i ≠ c) (p0 : Int32) : Ct G yL_has (.codeWith yL_has cL_has 4 (some .int) [(0, 9, 12, 21)]) 8 123 1 6 [.ref (A 0), .int p0, .ref c] h (cR Int32.toInt64 (st1 (inP p0)) (balT σ (nI p0.toNatClampNeg) (gT σ)) σ (σ) A c h) pxN := by
  have hM : Ct G yX3_has (.code yX3_has cX3_has 2 (some .int)) 7 102 1 6 [.ref (A 0), .int p0] h (cN (st1 (inP p0)) (balT σ (nI p0.toNatClampNeg) (gT σ)) σ (σ) A h) (cT (st1 (inP p0)) σ A h cdI) := by
    refine (c_X3_has hG hC p0).conv (fun v h' q => ?_) (fun E h' q => ?_)
    · obtain ⟨⟨p, hp, rfl, rfl⟩, rfl⟩ := q
      have et : (nI p).toNatClampNeg = p := nI_clamp (by omega)
      exact ⟨Or.inl ⟨rfl, inP_nI hp⟩, by rw [et], A, P, r, hC, exA.of kpC.rf⟩
    · obtain ⟨rfl, q1, rfl⟩ := q
      exact cT_I (Or.inr ⟨rfl, q1⟩) hC kpC.rf
  exact (w_has hG hN hM hC.2.2.1 (cN_v ho dAc) cT_dI).post (nR ho dAc)
set_option maxHeartbeats 1000000 in
theorem m_has (hG : GOk G) (hM : MO h B σ x u md hs) (hR : RM σ u) (p0 : Int32) : Ct G yX4_has (.code yX4_has cX4_has 2 (some .int)) 4 88 0 0 [.ref (B 0), .int p0] h (mR (st1 (inP p0)) (balT σ (nI p0.toNatClampNeg) (gT σ)) σ (σ) B h) pxN := by
  exact (c_X4_has hG hM hR p0).post (mq_mR hR Iff.rfl (fun _ => rfl))
set_option maxHeartbeats 1000000 in
theorem n_hasOn (hG : GOk G) (hN : GNc G) (hC : CS h A σ P r) (ho : h c = some (out1 o)) (dAc : ∀ i, i < nA σ → A i ≠ c) (p0 p1 : Int32) : Ct G yL_hasOn (.codeWith yL_hasOn cL_hasOn 5 (some .int) [(0, 10, 13, 21)]) 8 127 2 12 [.ref (A 0), .int p0, .int p1, .ref c] h (cR Int32.toInt64 (st1 (okT σ p0 ∧ inP p1)) (gbal σ p0.toNatClampNeg p1.toNatClampNeg) σ (σ) A c h) pxN := by
  have hM : Ct G yX3_hasOn (.code yX3_hasOn cX3_hasOn 4 (some .int)) 7 104 2 12 [.ref (A 0), .int p0, .int p1] h (cN (st1 (okT σ p0 ∧ inP p1)) (gbal σ p0.toNatClampNeg p1.toNatClampNeg) σ (σ) A h) (cT (st1 (okT σ p0 ∧ inP p1)) σ A h cdI) := by
    refine (c_X3_hasOn hG hC p0 p1).conv (fun v h' q => ?_) (fun E h' q => ?_)
    · obtain ⟨⟨t, p, ht, hp, rfl, rfl, rfl⟩, rfl⟩ := q
      have t8 : t < 8 := Nat.lt_of_lt_of_le ht hC.2.1
      have et : (nI t).toNatClampNeg = t := nI_clamp (by omega)
      have el : (nI p).toNatClampNeg = p := nI_clamp (by omega)
      exact ⟨Or.inl ⟨rfl, ⟨t, ht, rfl⟩, inP_nI hp⟩, by rw [et, el, gbal, balN], A, P, r, hC, exA.of kpC.rf⟩
    · obtain ⟨rfl, q1, rfl⟩ := q
      exact cT_I (Or.inr ⟨rfl, q1⟩) hC kpC.rf
  exact (w_hasOn hG hN hM hC.2.2.1 (cN_v ho dAc) cT_dI).post (nR ho dAc)
set_option maxHeartbeats 1000000 in
theorem m_hasOn (hG : GOk G) (hM : MO h B σ x u md hs) (hR : RM σ u) (p0 p1 : Int32) : Ct G yX4_hasOn (.code yX4_hasOn cX4_hasOn 3 (some .int)) 3 66 0 0 [.ref (B 0), .int p0, .int p1] h (mR (st1 (okT σ p0 ∧ inP p1)) (gbal σ p0.toNatClampNeg p1.toNatClampNeg) σ (σ) B h) pxN := by
  exact (c_X4_hasOn hG hM hR p0 p1).post (mq_mR hR (and_congr (inT_iff hR.1) Iff.rfl) (fun _ => rfl))
set_option maxHeartbeats 1000000 in
theorem n_owes (hG : GOk G) (hN : GNc G) (hC : CS h A σ P r) (ho : h c = some (out1 o)) (dAc : ∀ i, i < nA σ → A i ≠ c) (p0 p1 : Int32) : Ct G yL_owes (.codeWith yL_owes cL_owes 5 (some .int) [(0, 10, 13, 21)]) 8 129 2 12 [.ref (A 0), .int p0, .int p1, .ref c] h (cR Int32.toInt64 (st1 (inP p0 ∧ inP p1)) (gOw σ p0 p1 (gT σ)) σ (σ) A c h) pxN := by
  have hM : Ct G yX3_owes (.code yX3_owes cX3_owes 8 (some .int)) 7 102 2 12 [.ref (A 0), .int p0, .int p1] h (cN (st1 (inP p0 ∧ inP p1)) (gOw σ p0 p1 (gT σ)) σ (σ) A h) (cT (st1 (inP p0 ∧ inP p1)) σ A h cdI) := by
    refine (c_X3_owes hG hC p0 p1).conv (fun v h' q => ?_) (fun E h' q => ?_)
    · obtain ⟨q1, rfl, rfl⟩ := q
      exact ⟨Or.inl ⟨rfl, q1⟩, rfl, A, P, r, hC, exA.of kpC.rf⟩
    · obtain ⟨rfl, q1, rfl⟩ := q
      exact cT_I (Or.inr ⟨rfl, q1⟩) hC kpC.rf
  exact (w_owes hG hN hM hC.2.2.1 (cN_v ho dAc) cT_dI).post (nR ho dAc)
set_option maxHeartbeats 1000000 in
theorem m_owes (hG : GOk G) (hM : MO h B σ x u md hs) (hR : RM σ u) (p0 p1 : Int32) : Ct G yX4_owes (.code yX4_owes cX4_owes 3 (some .int)) 3 69 0 0 [.ref (B 0), .int p0, .int p1] h (mR (st1 (inP p0 ∧ inP p1)) (gOw σ p0 p1 (gT σ)) σ (σ) B h) pxN := by
  exact (c_X4_owes hG hM hR p0 p1).post (mq_mR hR Iff.rfl (fun _ => rfl))
set_option maxHeartbeats 1000000 in
theorem n_owesAlong (hG : GOk G) (hN : GNc G) (hC : CS h A σ P r) (ho : h c = some (out1 o)) (dAc : ∀ i, i < nA σ → A i ≠ c) (p0 : Int32) : Ct G yL_owesAlong (.codeWith yL_owesAlong cL_owesAlong 4 (some .int) [(0, 9, 12, 21)]) 8 123 1 6 [.ref (A 0), .int p0, .ref c] h (cR Int32.toInt64 (st1 (inP p0)) (gOA σ p0) σ (σ) A c h) pxN := by
  have hM : Ct G yX3_owesAlong (.code yX3_owesAlong cX3_owesAlong 2 (some .int)) 7 102 1 6 [.ref (A 0), .int p0] h (cN (st1 (inP p0)) (gOA σ p0) σ (σ) A h) (cT (st1 (inP p0)) σ A h cdI) := by
    refine (c_X3_owesAlong hG hC p0).conv (fun v h' q => ?_) (fun E h' q => ?_)
    · obtain ⟨q1, rfl, r2, hC', hk⟩ := q
      exact ⟨Or.inl ⟨rfl, q1⟩, rfl, A, P, r2, hC', exA.of hk⟩
    · obtain ⟨rfl, q1, rfl⟩ := q
      exact cT_I (Or.inr ⟨rfl, q1⟩) hC kpC.rf
  exact (w_owesAlong hG hN hM hC.2.2.1 (cN_v ho dAc) cT_dI).post (nR ho dAc)
set_option maxHeartbeats 1000000 in
theorem m_owesAlong (hG : GOk G) (hM : MO h B σ x u md hs) (hR : RM σ u) (p0 : Int32) : Ct G yX4_owesAlong (.code yX4_owesAlong cX4_owesAlong 2 (some .int)) 4 96 0 0 [.ref (B 0), .int p0] h (mR (st1 (inP p0)) (gOA σ p0) σ (σ) B h) pxN := by
  exact (c_X4_owesAlong hG hM hR (RST_of (LnP_of hR)) p0).post (mq_mR hR Iff.rfl (fun hc => by
    obtain ⟨q, hq, rfl⟩ := inP_of hc
    rw [nI_clamp (by omega)]
    exact alB_gOA (LnP_of hR) q hq))
set_option maxHeartbeats 1000000 in
theorem n_linesSmoothed (hG : GOk G) (hN : GNc G) (hC : CS h A σ P r) (ho : h c = some (out1 o)) (dAc : ∀ i, i < nA σ → A i ≠ c) (p0 : Int32) : Ct G yL_linesSmoothed (.codeWith yL_linesSmoothed cL_linesSmoothed 4 (some .int) [(0, 9, 12, 21)]) 8 125 2 12 [.ref (A 0), .int p0, .ref c] h (cR Int32.toInt64 (st1 (okT σ p0)) (lf σ p0.toNatClampNeg) σ (σ) A c h) pxN := by
  have hM : Ct G yX3_linesSmoothed (.code yX3_linesSmoothed cX3_linesSmoothed 2 (some .int)) 7 104 2 12 [.ref (A 0), .int p0] h (cN (st1 (okT σ p0)) (lf σ p0.toNatClampNeg) σ (σ) A h) (cT (st1 (okT σ p0)) σ A h cdI) := by
    refine (c_X3_linesSmoothed hG hC p0).conv (fun v h' q => ?_) (fun E h' q => ?_)
    · obtain ⟨t, ht, rfl, rfl, P2, hC', hk⟩ := q
      have t8 : t < 8 := Nat.lt_of_lt_of_le ht hC.2.1
      have et : (nI t).toNatClampNeg = t := nI_clamp (by omega)
      exact ⟨Or.inl ⟨rfl, t, ht, rfl⟩, by rw [et], A, P2, r, hC', exA.of hk⟩
    · obtain ⟨rfl, q1, rfl⟩ := q
      exact cT_I (Or.inr ⟨rfl, q1⟩) hC kpC.rf
  exact (w_linesSmoothed hG hN hM hC.2.2.1 (cN_v ho dAc) cT_dI).post (nR ho dAc)
set_option maxHeartbeats 1000000 in
theorem m_linesSmoothed (hG : GOk G) (hM : MO h B σ x u md hs) (hR : RM σ u) (hE : PEA σ) (p0 : Int32) : Ct G yX4_linesSmoothed (.code yX4_linesSmoothed cX4_linesSmoothed 2 (some .int)) 4 92 0 0 [.ref (B 0), .int p0] h (mR (st1 (okT σ p0)) (lf σ p0.toNatClampNeg) σ (σ) B h) pxN := by
  exact (c_X4_linesSmoothed hG hM hR hE p0).post (mq_mR hR (inT_iff hR.1) (fun _ => rfl))
set_option maxHeartbeats 1000000 in
theorem n_atRisk (hG : GOk G) (hN : GNc G) (hC : CS h A σ P r) (ho : h c = some (out1 o)) (dAc : ∀ i, i < nA σ → A i ≠ c) (p0 : Int32) : Ct G yL_atRisk (.codeWith yL_atRisk cL_atRisk 4 (some .int) [(0, 9, 12, 21)]) 8 128 1 6 [.ref (A 0), .int p0, .ref c] h (cR Int32.toInt64 (st1 (inP p0)) (if gth σ p0.toNatClampNeg = 0 then 0 else gRk σ p0 (gT σ)) σ (σ) A c h) pxN := by
  have hM : Ct G yX3_atRisk (.code yX3_atRisk cX3_atRisk 7 (some .int)) 7 102 1 6 [.ref (A 0), .int p0] h (cN (st1 (inP p0)) (if gth σ p0.toNatClampNeg = 0 then 0 else gRk σ p0 (gT σ)) σ (σ) A h) (cT (st1 (inP p0)) σ A h cdI) := by
    refine (c_X3_atRisk hG hC p0).conv (fun v h' q => ?_) (fun E h' q => ?_)
    · obtain ⟨q1, rfl, rfl⟩ := q
      exact ⟨Or.inl ⟨rfl, q1⟩, rfl, A, P, r, hC, exA.of kpC.rf⟩
    · obtain ⟨rfl, q1, rfl⟩ := q
      exact cT_I (Or.inr ⟨rfl, q1⟩) hC kpC.rf
  exact (w_atRisk hG hN hM hC.2.2.1 (cN_v ho dAc) cT_dI).post (nR ho dAc)
set_option maxHeartbeats 1000000 in
theorem m_atRisk (hG : GOk G) (hM : MO h B σ x u md hs) (hR : RM σ u) (p0 : Int32) : Ct G yX4_atRisk (.code yX4_atRisk cX4_atRisk 2 (some .int)) 3 68 0 0 [.ref (B 0), .int p0] h (mR (st1 (inP p0)) (if gth σ p0.toNatClampNeg = 0 then 0 else gRk σ p0 (gT σ)) σ (σ) B h) pxN := by
  exact (c_X4_atRisk hG hM hR p0).post (mq_mR hR Iff.rfl (fun hc => by
    obtain ⟨q, hq, rfl⟩ := inP_of hc
    rw [nI_clamp (by omega)]))
set_option maxHeartbeats 1000000 in
theorem n_yearsUntilMelted (hG : GOk G) (hN : GNc G) (hC : CS h A σ P r) (ho : h c = some (out1 o)) (dAc : ∀ i, i < nA σ → A i ≠ c) (hy : gy σ < 2 ^ 30) (p0 : Int32) : Ct G yL_yearsUntilMelted (.codeWith yL_yearsUntilMelted cL_yearsUntilMelted 4 (some .int) [(0, 9, 12, 21)]) 8 125 2 12 [.ref (A 0), .int p0, .ref c] h (cR Int32.toInt64 (st1 (okT σ p0)) (ytm σ p0.toNatClampNeg 10 0) σ (σ) A c h) pxN := by
  have hM : Ct G yX3_yearsUntilMelted (.code yX3_yearsUntilMelted cX3_yearsUntilMelted 2 (some .int)) 7 104 2 12 [.ref (A 0), .int p0] h (cN (st1 (okT σ p0)) (ytm σ p0.toNatClampNeg 10 0) σ (σ) A h) (cT (st1 (okT σ p0)) σ A h cdI) := by
    refine (c_X3_yearsUntilMelted hG hC p0 hy).conv (fun v h' q => ?_) (fun E h' q => ?_)
    · obtain ⟨⟨t, ht, rfl, rfl⟩, rfl⟩ := q
      have t8 : t < 8 := Nat.lt_of_lt_of_le ht hC.2.1
      have et : (nI t).toNatClampNeg = t := nI_clamp (by omega)
      exact ⟨Or.inl ⟨rfl, t, ht, rfl⟩, by rw [et], A, P, r, hC, exA.of kpC.rf⟩
    · obtain ⟨rfl, q1, rfl⟩ := q
      exact cT_I (Or.inr ⟨rfl, q1⟩) hC kpC.rf
  exact (w_yearsUntilMelted hG hN hM hC.2.2.1 (cN_v ho dAc) cT_dI).post (nR ho dAc)
set_option maxHeartbeats 1000000 in
theorem m_yearsUntilMelted (hG : GOk G) (hM : MO h B σ x u md hs) (hR : RM σ u) (hy : gy σ < 2 ^ 30) (p0 : Int32) : Ct G yX4_yearsUntilMelted (.code yX4_yearsUntilMelted cX4_yearsUntilMelted 2 (some .int)) 2 44 0 0 [.ref (B 0), .int p0] h (mR (st1 (okT σ p0)) (ytm σ p0.toNatClampNeg 10 0) σ (σ) B h) pxN := by
  exact (c_X4_yearsUntilMelted hG hM hR hy p0).post (mq_mR hR (inT_iff hR.1) (fun _ => rfl))
set_option maxHeartbeats 1000000 in
theorem n_meltsIn (hG : GOk G) (hN : GNc G) (hC : CS h A σ P r) (ho : h c = some (out1 o)) (dAc : ∀ i, i < nA σ → A i ≠ c) (hy : gy σ < 2 ^ 30) (p0 : Int32) : Ct G yL_meltsIn (.codeWith yL_meltsIn cL_meltsIn 4 (some .int) [(0, 9, 12, 13)]) 8 129 1 6 [.ref (A 0), .int p0, .ref c] h (cR Int32.toInt64 (st1 (inY p0)) (gMI σ p0 (gT σ)) σ (σ) A c h) pxN := by
  have hM : Ct G yX3_meltsIn (.code yX3_meltsIn cX3_meltsIn 8 (some .int)) 7 102 1 6 [.ref (A 0), .int p0] h (cN (st1 (inY p0)) (gMI σ p0 (gT σ)) σ (σ) A h) (cT (st1 (inY p0)) σ A h cdA) := by
    refine (c_X3_meltsIn hG hC p0 hy).conv (fun v h' q => ?_) (fun E h' q => ?_)
    · obtain ⟨q1, rfl, rfl⟩ := q
      exact ⟨Or.inl ⟨rfl, q1⟩, rfl, A, P, r, hC, exA.of kpC.rf⟩
    · obtain ⟨rfl, q1, rfl⟩ := q
      exact cT_A (Or.inr ⟨rfl, q1⟩) hC kpC.rf
  exact (w_meltsIn hG hN hM hC.2.2.1 (cN_v ho dAc) cT_dA).post (nR ho dAc)
set_option maxHeartbeats 1000000 in
theorem m_meltsIn (hG : GOk G) (hM : MO h B σ x u md hs) (hR : RM σ u) (hy : gy σ < 2 ^ 30) (p0 : Int32) : Ct G yX4_meltsIn (.code yX4_meltsIn cX4_meltsIn 2 (some .int)) 3 70 0 0 [.ref (B 0), .int p0] h (mR (st1 (inY p0)) (gMI σ p0 (gT σ)) σ (σ) B h) pxN := by
  exact (c_X4_meltsIn hG hM hR hy p0).post (mq_mR hR iffS (fun _ => rfl))
end Op
