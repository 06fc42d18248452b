/-! ===== Smoothing.plan; Smoothing's constructor ===== -/
def balN (D C M : Nat → Int32) (n : Nat) : Nat → Int32 := fun p => bal D C M (nI p) n
def pl0 (D C M : Nat → Int32) (n : Nat) (P : PS) : PS := (balN D C M n, pD P, pC P, pM P, pW P, 0)
def dj6 (L : List Nat) (ba nl nd nc nm nw : Nat) : Prop := ∀ x ∈ L, ∀ y ∈ [ba, nl, nd, nc, nm, nw], x ≠ y
theorem kp6.at {h h' : Hp} {L : List Nat} {ba nl nd nc nm nw x : Nat} (hk : kp6 h h' ba nl nd nc nm nw) (hj : dj6 L ba nl nd nc nm nw) (hx : x ∈ L) : h' x = h x :=
  hk x (hj x hx _ (by simp)) (hj x hx _ (by simp)) (hj x hx _ (by simp)) (hj x hx _ (by simp)) (hj x hx _ (by simp)) (hj x hx _ (by simp))
theorem pl_neg {th : Nat → Int32} {f : Nat} {P : PS} (h : ¬ pB P (pmin (pB P) 7) < 0) : pl th (f + 1) P = (true, P) := if_neg h
theorem pl_none {th : Nat → Int32} {f : Nat} {P : PS} (h : pB P (pmin (pB P) 7) < 0) (hw : wf th (pmin (pB P) 7) (pmax (pB P) 7) 8 0 = none) : pl th (f + 1) P = (false, P) := by
  rw [pl, if_pos h, hw]
theorem pl_some {th : Nat → Int32} {f w : Nat} {P : PS} (h : pB P (pmin (pB P) 7) < 0) (hw : wf th (pmin (pB P) 7) (pmax (pB P) 7) 8 0 = some w) : pl th (f + 1) P = pl th f (pstp P (pmin (pB P) 7) (pmax (pB P) 7) w) := by
  rw [pl, if_pos h, hw]
section Pl2
variable {G : Gt} {h : Hp} {s ba nl nd nc nm nw t a d c m w n : Nat} {th D C M W : Nat → Int32} {P : PS}
set_option maxHeartbeats 4000000 in
theorem c_X1_plan (hG : GOk G) (hS : SMc h s ba nl nd nc nm nw P) (h6 : nd6 ba nl nd nc nm nw) (hL : LLc h a d c m w D C M W n) (hn : n ≤ 12) (ht : h t = some (.inl (1, 8, .inl th))) (hj : dj6 [a, d, c, m, w, t] ba nl nd nc nm nw) :
    Ct G yX1_plan (.code yX1_plan cX1_plan 5 (some .boolean)) 2 50 0 0 [.ref s, .ref a, .ref t] h
      (fun v h' => v = some (.int (tf ((pl th 8 (pl0 D C M n P)).1 = true))) ∧ SMc h' s ba nl nd nc nm nw (pl th 8 (pl0 D C M n P)).2 ∧ kp6 h h' ba nl nd nc nm nw) pxN := by
  refine Ct.of (by decide +kernel) (Nat.le_of_ble_eq_true rfl) fun F hF hT hN hRm => ?_
  obtain ⟨sn1, sn2, sn3, sn4, sn5, sn6⟩ := hS.ne
  obtain ⟨⟨b1, b2, b3, b4, b5⟩, h4⟩ := id h6
  have loop2 : ∀ k, k ≤ 8 → ∀ (h1 : Hp) (P1 : PS), SMc h1 s ba nl nd nc nm nw P1 → pn P1 ≤ k → pl th 8 (pl0 D C M n P) = pl th (8 - k) P1 → kp6 h h1 ba nl nd nc nm nw → V G F (fin G F (fun v h' => v = some (.int (tf ((pl th 8 (pl0 D C M n P)).1 = true))) ∧ SMc h' s ba nl nd nc nm nw (pl th 8 (pl0 D C M n P)).2 ∧ kp6 h h' ba nl nd nc nm nw) pxN) 0 0 35 [some (.ref s), some (.ref a), some (.ref t), some (.int (nI k)), none] [] h1 := by
    refine lp_up 8 fun k hk ih => ?_
    intro h1 P1 hS1 hn1 hpl hkp
    have ht1 : h1 t = some (.inl (1, 8, .inl th)) := (hkp.at hj (by simp)).trans ht
    obtain ⟨g1, g2, g3⟩ := id hS1
    refine V.run hF [(.iload_n 3, 1, .null), (.bipush 8, 2, .int (nI 8))] (pc' := 38) (L' := [some (.ref s), some (.ref a), some (.ref t), some (.int (nI k)), none]) (st' := [.int (nI 8), .int (nI k)]) (by decide +kernel) rfl ?_
    refine V.icmpN_ge (i := k) (j := 8) hF (off := 43) (tgt := 81) (by decide +kernel) (by decide) (by omega) (by omega) (fun c1 => ?_) (fun c1 => ?_)
    · have ek : 8 - k = 0 := by omega
      rw [ek] at hpl
      refine V.run hF [(.iconst 1, 1, .int 1)] (pc' := 82) (L' := [some (.ref s), some (.ref a), some (.ref t), some (.int (nI k)), none]) (st' := [.int 1]) (by decide +kernel) rfl ?_
      exact V.retz hF (by decide +kernel) rfl ⟨by rw [hpl]; rfl, by rw [hpl]; exact hS1, hkp⟩
    · skip
      have e8 : 8 - k = (8 - (k + 1)) + 1 := by omega
      rw [e8] at hpl
      have hmin := pmin_le (pB P1) 7
      have hmax := pmax_le (pB P1) 7
      refine V.run hF [(.aload_n 0, 1, .null)] (pc' := 42) (L' := [some (.ref s), some (.ref a), some (.ref t), some (.int (nI k)), none]) (st' := [.ref s]) (by decide +kernel) rfl ?_
      refine V.callV (As := []) (st := []) hG hF k_RX1_30 (by decide +kernel) (c_X1_poorest hG g1 g2) g1 rfl rfl ⟨by rw [hRm]; decide, by rw [hRm]; decide⟩ (Nat.le_of_ble_eq_true rfl) rfl (fun v h_1 gp1 => ?_) (fun E h9 hx => hx.elim)
      obtain ⟨rfl, he_gp1⟩ := gp1
      rw [he_gp1]
      show V G F _ _ _ 45 [some (.ref s), some (.ref a), some (.ref t), some (.int (nI k)), none] [.int (nI (pmin (pB P1) 7))] h1
      refine V.run hF [(.istore 4, 2, .null), (.aload_n 0, 1, .null)] (pc' := 48) (L' := [some (.ref s), some (.ref a), some (.ref t), some (.int (nI k)), some (.int (nI (pmin (pB P1) 7)))]) (st' := [.ref s]) (by decide +kernel) rfl ?_
      refine V.getf hG hF k_RX1_9 (by decide +kernel) g1 rfl ?_
      refine V.run hF [(.iload 4, 2, .null)] (pc' := 53) (L' := [some (.ref s), some (.ref a), some (.ref t), some (.int (nI k)), some (.int (nI (pmin (pB P1) 7)))]) (st' := [.int (nI (pmin (pB P1) 7)), .ref ba]) (by decide +kernel) rfl ?_
      refine V.ialdN (j := pmin (pB P1) 7) hG hF (by decide +kernel) g2 (by omega) (by decide) ?_
      refine V.if_lt hF (off := 5) (tgt := 59) (by decide +kernel) (by decide) (fun c2 => ?_) (fun c2 => ?_)
      · skip
        refine V.run hF [(.aload_n 0, 1, .null), (.iload 4, 2, .null), (.aload_n 0, 1, .null)] (pc' := 63) (L' := [some (.ref s), some (.ref a), some (.ref t), some (.int (nI k)), some (.int (nI (pmin (pB P1) 7)))]) (st' := [.ref s, .int (nI (pmin (pB P1) 7)), .ref s]) (by decide +kernel) rfl ?_
        refine V.callV (As := []) (st := [.int (nI (pmin (pB P1) 7)), .ref s]) hG hF k_RX1_34 (by decide +kernel) (c_X1_wealthiest hG g1 g2) g1 rfl rfl ⟨by rw [hRm]; decide, by rw [hRm]; decide⟩ (Nat.le_of_ble_eq_true rfl) rfl (fun v h_2 gp2 => ?_) (fun E h9 hx => hx.elim)
        obtain ⟨rfl, he_gp2⟩ := gp2
        rw [he_gp2]
        show V G F _ _ _ 66 [some (.ref s), some (.ref a), some (.ref t), some (.int (nI k)), some (.int (nI (pmin (pB P1) 7)))] [.int (nI (pmax (pB P1) 7)), .int (nI (pmin (pB P1) 7)), .ref s] h1
        refine V.run hF [(.aload_n 2, 1, .null)] (pc' := 67) (L' := [some (.ref s), some (.ref a), some (.ref t), some (.int (nI k)), some (.int (nI (pmin (pB P1) 7)))]) (st' := [.ref t, .int (nI (pmax (pB P1) 7)), .int (nI (pmin (pB P1) 7)), .ref s]) (by decide +kernel) rfl ?_
        refine V.callV (As := [.int (nI (pmin (pB P1) 7)), .int (nI (pmax (pB P1) 7)), .ref t]) (st := []) hG hF k_RX1_37 (by decide +kernel) (c_X1_planLine hG hS1 h6 (by omega) ht1 (by omega) (by omega)) g1 rfl rfl ⟨by rw [hRm]; decide, by rw [hRm]; decide⟩ (Nat.le_of_ble_eq_true rfl) rfl (fun v h2 hp => ?_) (fun E h9 hx => hx.elim)
        rcases hp with ⟨hw, rfl, he⟩ | ⟨w', hw, rfl, hS2, hk2⟩
        · skip
          rw [he]
          have hpl := hpl.trans (pl_none c2 hw)
          show V G F _ _ _ 70 [some (.ref s), some (.ref a), some (.ref t), some (.int (nI k)), some (.int (nI (pmin (pB P1) 7)))] [.int 0] h1
          refine V.if_ne hF (off := 5) (tgt := 75) (by decide +kernel) (by decide) (fun c3 => ?_) (fun c3 => ?_)
          · exact absurd rfl c3
          · skip
            refine V.run hF [(.iconst 0, 1, .int 0)] (pc' := 74) (L' := [some (.ref s), some (.ref a), some (.ref t), some (.int (nI k)), some (.int (nI (pmin (pB P1) 7)))]) (st' := [.int 0]) (by decide +kernel) rfl ?_
            exact V.retz hF (by decide +kernel) rfl ⟨by rw [hpl]; rfl, by rw [hpl]; exact hS1, hkp⟩
        · skip
          have hpl := hpl.trans (pl_some c2 hw)
          show V G F _ _ _ 70 [some (.ref s), some (.ref a), some (.ref t), some (.int (nI k)), some (.int (nI (pmin (pB P1) 7)))] [.int 1] h2
          refine V.if_ne hF (off := 5) (tgt := 75) (by decide +kernel) (by decide) (fun c3 => ?_) (fun c3 => ?_)
          · skip
            refine V.run hF [(.iinc 3 1, 3, .int 1), (.goto (-43), 3, .null)] (pc' := 35) (L' := [some (.ref s), some (.ref a), some (.ref t), some (.int ((nI k) + 1)), some (.int (nI (pmin (pB P1) 7)))]) (st' := []) (by decide +kernel) rfl ?_
            rw [nI_1 k]
            have := ih c1 h2 (pstp P1 (pmin (pB P1) 7) (pmax (pB P1) 7) w') hS2 (Nat.succ_le_succ hn1) hpl (hkp.tr hk2)
            exact V.loc (fun i v hv => by
              match i, hv with
              | 0, hv => exact hv
              | 1, hv => exact hv
              | 2, hv => exact hv
              | 3, hv => exact hv
              | 4, hv => cases hv
              | q + 5, hv => cases hv) this
          · skip
            exact absurd c3 (by decide)
      · skip
        have hpl := hpl.trans (pl_neg c2)
        refine V.run hF [(.iconst 1, 1, .int 1)] (pc' := 58) (L' := [some (.ref s), some (.ref a), some (.ref t), some (.int (nI k)), some (.int (nI (pmin (pB P1) 7)))]) (st' := [.int 1]) (by decide +kernel) rfl ?_
        exact V.retz hF (by decide +kernel) rfl ⟨by rw [hpl]; rfl, by rw [hpl]; exact hS1, hkp⟩
  have loop1 : ∀ i, i ≤ 8 → ∀ (h1 : Hp), h1 s = some (.inr (1, [.ref ba, .ref nl])) → h1 ba = some (.inl (0, 8, .inl (mxk i (balN D C M n) (pB P)))) → LLc h1 nl nd nc nm nw (pD P) (pC P) (pM P) (pW P) 0 → kp6 h h1 ba nl nd nc nm nw → V G F (fin G F (fun v h' => v = some (.int (tf ((pl th 8 (pl0 D C M n P)).1 = true))) ∧ SMc h' s ba nl nd nc nm nw (pl th 8 (pl0 D C M n P)).2 ∧ kp6 h h' ba nl nd nc nm nw) pxN) 0 0 10 [some (.ref s), some (.ref a), some (.ref t), some (.int (nI i)), none] [] h1 := by
    refine lp_up 8 fun i hi ih => ?_
    intro h1 g1 g2 g3 hkp
    have hL1 : LLc h1 a d c m w D C M W n := hL.mv (fun q hq => hkp.at hj (by
      simp only [List.mem_cons, List.not_mem_nil, or_false] at hq ⊢
      rcases hq with q | q | q | q | q <;> simp [q]))
    refine V.run hF [(.iload_n 3, 1, .null), (.bipush 8, 2, .int (nI 8))] (pc' := 13) (L' := [some (.ref s), some (.ref a), some (.ref t), some (.int (nI i)), none]) (st' := [.int (nI 8), .int (nI i)]) (by decide +kernel) rfl ?_
    refine V.icmpN_ge (i := i) (j := 8) hF (off := 20) (tgt := 33) (by decide +kernel) (by decide) (by omega) (by omega) (fun c1 => ?_) (fun c1 => ?_)
    · have e8 : ∀ j, j < 8 → mxk i (balN D C M n) (pB P) j = balN D C M n j := fun j hj => if_pos (by omega)
      refine V.extI g2 e8 ?_
      refine V.run hF [(.iconst 0, 1, .int 0), (.istore_n 3, 1, .null)] (pc' := 35) (L' := [some (.ref s), some (.ref a), some (.ref t), some (.int 0), none]) (st' := []) (by decide +kernel) rfl ?_
      have hk2 : ∀ q : Nat, q ≠ ba → hset h1 ba (.inl (0, 8, .inl (balN D C M n))) q = h1 q := fun q hq => hset_ne hq
      exact loop2 0 (Nat.zero_le _) _ (pl0 D C M n P) ⟨(hk2 s sn1).trans g1, hset_eq, g3.mv (fun q hq => hk2 q (by
        simp only [List.mem_cons, List.not_mem_nil, or_false] at hq
        rcases hq with rfl | rfl | rfl | rfl | rfl <;> (apply Ne.symm; assumption)))⟩ (Nat.le_refl _) rfl (hkp.tr (fun q e1 _ _ _ _ _ => hk2 q e1))
    · skip
      refine V.run hF [(.aload_n 0, 1, .null)] (pc' := 17) (L' := [some (.ref s), some (.ref a), some (.ref t), some (.int (nI i)), none]) (st' := [.ref s]) (by decide +kernel) rfl ?_
      refine V.getf hG hF k_RX1_9 (by decide +kernel) g1 rfl ?_
      refine V.run hF [(.iload_n 3, 1, .null), (.aload_n 1, 1, .null), (.iload_n 3, 1, .null)] (pc' := 23) (L' := [some (.ref s), some (.ref a), some (.ref t), some (.int (nI i)), none]) (st' := [.int (nI i), .ref a, .int (nI i), .ref ba]) (by decide +kernel) rfl ?_
      refine V.callVN (As := [.int (nI i)]) (st := [.int (nI i), .ref ba]) hG hF k_RX1_26 (by decide +kernel) (c_X0_balanceOf hG hL1 hn (nI i)) hL1.1 rfl rfl ⟨by rw [hRm]; decide, by rw [hRm]; decide⟩ (Nat.le_of_ble_eq_true rfl) rfl (fun v h_1 gp1 => ?_)
      obtain ⟨rfl, he_gp1⟩ := gp1
      rw [he_gp1]
      show V G F _ _ _ 26 [some (.ref s), some (.ref a), some (.ref t), some (.int (nI i)), none] [.int (bal D C M (nI i) n), .int (nI i), .ref ba] h1
      show V G F _ _ _ 26 [some (.ref s), some (.ref a), some (.ref t), some (.int (nI i)), none] [.int (balN D C M n i), .int (nI i), .ref ba] h1
      refine V.iastN (j := i) hG hF (by decide +kernel) g2 (by omega) (by decide) ?_
      obtain ⟨h_2, gh2⟩ : ∃ z : Hp, z = hset h1 ba (.inl (0, 8, .inl (upd (mxk i (balN D C M n) (pB P)) i (balN D C M n i)))) := ⟨_, rfl⟩
      refine V.hp gh2 ?_
      have gk2 : ∀ q : Nat, q ≠ ba → h_2 q = h1 q := fun q hq => by rw [gh2]; exact hset_ne hq
      have gs2 : h_2 ba = some (.inl (0, 8, .inl (upd (mxk i (balN D C M n) (pB P)) i (balN D C M n i)))) := by rw [gh2]; exact hset_eq
      refine V.run hF [(.iinc 3 1, 3, .int 1), (.goto (-20), 3, .null)] (pc' := 10) (L' := [some (.ref s), some (.ref a), some (.ref t), some (.int ((nI i) + 1)), none]) (st' := []) (by decide +kernel) rfl ?_
      rw [nI_1 i]
      refine ih c1 h_2 ?_ ?_ ?_ ?_
      · exact (gk2 s sn1).trans g1
      · rw [← mxk_s]
        exact gs2
      · exact g3.mv (fun q hq => gk2 q (by
          simp only [List.mem_cons, List.not_mem_nil, or_false] at hq
          rcases hq with rfl | rfl | rfl | rfl | rfl <;> (apply Ne.symm; assumption)))
      · exact hkp.tr (fun q e1 _ _ _ _ _ => gk2 q e1)
  obtain ⟨hA, hb, hN⟩ := hS
  refine V.run hF [(.aload_n 0, 1, .null)] (pc' := 1) (L' := [some (.ref s), some (.ref a), some (.ref t), none, none]) (st' := [.ref s]) (by decide +kernel) rfl ?_
  refine V.getf hG hF k_RX1_18 (by decide +kernel) hA rfl ?_
  refine V.run hF [(.iconst 0, 1, .int 0)] (pc' := 5) (L' := [some (.ref s), some (.ref a), some (.ref t), none, none]) (st' := [.int 0, .ref nl]) (by decide +kernel) rfl ?_
  refine V.putf hG hF k_RX1_22 (by decide +kernel) hN.1 (fun C T N hc => by cases hc; exact ⟨rfl, .int, by decide +kernel, rfl, rfl⟩) (Nat.le_of_ble_eq_true rfl) ?_
  obtain ⟨h_1, gh1⟩ : ∃ z : Hp, z = hset h nl (.inr (0, [.ref nd, .ref nc, .ref nm, .ref nw, .int 0])) := ⟨_, rfl⟩
  refine V.hp gh1 ?_
  have gk1 : ∀ q : Nat, q ≠ nl → h_1 q = h q := fun q hq => by rw [gh1]; exact hset_ne hq
  have gs1 : h_1 nl = some (.inr (0, [.ref nd, .ref nc, .ref nm, .ref nw, .int 0])) := by rw [gh1]; exact hset_eq
  refine V.run hF [(.iconst 0, 1, .int 0), (.istore_n 3, 1, .null)] (pc' := 10) (L' := [some (.ref s), some (.ref a), some (.ref t), some (.int 0), none]) (st' := []) (by decide +kernel) rfl ?_
  obtain ⟨⟨q1, q2, q3, q4⟩, -⟩ := hN.nd h4
  refine loop1 0 (Nat.zero_le _) h_1 ((gk1 s sn2).trans hA) ?_ ⟨gs1, (gk1 nd (Ne.symm q1)).trans hN.2.1, (gk1 nc (Ne.symm q2)).trans hN.2.2.1, (gk1 nm (Ne.symm q3)).trans hN.2.2.2.1, (gk1 nw (Ne.symm q4)).trans hN.2.2.2.2⟩ (fun q _ e2 _ _ _ _ => gk1 q e2)
  rw [mxk_0]
  exact (gk1 ba b1).trans hb
end Pl2
