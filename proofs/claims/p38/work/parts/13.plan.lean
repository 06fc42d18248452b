/-! ===== Smoothing.planLine, plan ===== -/
def nd6 (ba nl nd nc nm nw : Nat) : Prop := (ba ≠ nl ∧ ba ≠ nd ∧ ba ≠ nc ∧ ba ≠ nm ∧ ba ≠ nw) ∧ nd4 nd nc nm nw
theorem kp5.k6 {h h' : Hp} {ba nl nd nc nm nw : Nat} (p : kp5 h h' nl nd nc nm nw) : kp6 h h' ba nl nd nc nm nw := fun q _ e2 e3 e4 e5 e6 => p q e2 e3 e4 e5 e6
theorem LLc.mv {h h' : Hp} {a d c m w n : Nat} {D C M W : Nat → Int32} (hL : LLc h a d c m w D C M W n) (e : ∀ q ∈ [a, d, c, m, w], h' q = h q) : LLc h' a d c m w D C M W n := by
  obtain ⟨h1, h2, h3, h4, h5⟩ := hL
  exact ⟨(e a (by simp)).trans h1, (e d (by simp)).trans h2, (e c (by simp)).trans h3, (e m (by simp)).trans h4, (e w (by simp)).trans h5⟩
section Pl
variable {G : Gt} {h : Hp} {s ba nl nd nc nm nw t : Nat} {th : Nat → Int32} {P : PS}
theorem SMc.ne (hS : SMc h s ba nl nd nc nm nw P) : s ≠ ba ∧ s ≠ nl ∧ s ≠ nd ∧ s ≠ nc ∧ s ≠ nm ∧ s ≠ nw := by
  obtain ⟨h1, h2, h3, h4, h5, h6, h7⟩ := hS
  refine ⟨?_, ?_, ?_, ?_, ?_, ?_⟩ <;> (rintro rfl; rw [h1] at *; simp at *)
set_option maxHeartbeats 4000000 in
theorem c_X1_planLine (hG : GOk G) (hS : SMc h s ba nl nd nc nm nw P) (h6 : nd6 ba nl nd nc nm nw) (hn : pn P < 12) (ht : h t = some (.inl (1, 8, .inl th))) {d c : Nat} (hd : d < 8) (hc : c < 8) :
    Ct G yX1_planLine (.code yX1_planLine cX1_planLine 6 (some .boolean)) 1 25 0 0 [.ref s, .int (nI d), .int (nI c), .ref t] h
      (fun v h' => (wf th d c 8 0 = none ∧ v = some (.int 0) ∧ h' = h) ∨ (∃ w, wf th d c 8 0 = some w ∧ v = some (.int 1) ∧ SMc h' s ba nl nd nc nm nw (pstp P d c w) ∧ kp6 h h' ba nl nd nc nm nw)) pxN := by
  refine Ct.of (by decide +kernel) (Nat.le_of_ble_eq_true rfl) fun F hF hT hN hRm => ?_
  obtain ⟨sn1, sn2, sn3, sn4, sn5, sn6⟩ := hS.ne
  obtain ⟨⟨b1, b2, b3, b4, b5⟩, h4⟩ := h6
  obtain ⟨hA, hb, hL⟩ := hS
  have b1q : ∀ q ∈ [nl, nd, nc, nm, nw], q ≠ ba := by
    intro q hq
    simp only [List.mem_cons, List.not_mem_nil, or_false] at hq
    rcases hq with rfl | rfl | rfl | rfl | rfl <;> (apply Ne.symm; assumption)
  refine V.run hF [(.iload_n 1, 1, .null), (.iload_n 2, 1, .null), (.aload_n 3, 1, .null)] (pc' := 3) (L' := [some (.ref s), some (.int (nI d)), some (.int (nI c)), some (.ref t), none, none]) (st' := [.ref t, .int (nI c), .int (nI d)]) (by decide +kernel) rfl ?_
  refine V.callS (As := [.int (nI d), .int (nI c), .ref t]) (st := []) hG hF k_RX1_41 (by decide +kernel) (c_X1_witnessFor hG ht hd hc) rfl ⟨by rw [hRm]; decide, by rw [hRm]; decide⟩ (Nat.le_of_ble_eq_true rfl) rfl (fun v h_1 gp1 => ?_) (fun E h9 hx => hx.elim)
  obtain ⟨rfl, he_gp1⟩ := gp1
  rw [he_gp1]
  show V G F _ _ _ 6 [some (.ref s), some (.int (nI d)), some (.int (nI c)), some (.ref t), none, none] [.int (on (wf th d c 8 0))] h
  refine V.run hF [(.istore 4, 2, .null), (.iload 4, 2, .null), (.iconst (-1), 1, .int (-1))] (pc' := 11) (L' := [some (.ref s), some (.int (nI d)), some (.int (nI c)), some (.ref t), some (.int (on (wf th d c 8 0))), none]) (st' := [.int (-1), .int (on (wf th d c 8 0))]) (by decide +kernel) rfl ?_
  refine V.icmp_ne hF (off := 5) (tgt := 16) (by decide +kernel) (by decide) (fun c1 => ?_) (fun c1 => ?_)
  · obtain ⟨w, hw⟩ : ∃ w, wf th d c 8 0 = some w := by
      cases hw : wf th d c 8 0 with
      | none => exact absurd (by rw [hw]; rfl) c1
      | some w => exact ⟨w, rfl⟩
    have e1 : on (wf th d c 8 0) = nI w := by rw [hw]; rfl
    rw [e1]
    refine V.run hF [(.aload_n 0, 1, .null)] (pc' := 17) (L' := [some (.ref s), some (.int (nI d)), some (.int (nI c)), some (.ref t), some (.int (nI w)), none]) (st' := [.ref s]) (by decide +kernel) rfl ?_
    refine V.getf hG hF k_RX1_9 (by decide +kernel) hA rfl ?_
    refine V.run hF [(.iload_n 1, 1, .null)] (pc' := 21) (L' := [some (.ref s), some (.int (nI d)), some (.int (nI c)), some (.ref t), some (.int (nI w)), none]) (st' := [.int (nI d), .ref ba]) (by decide +kernel) rfl ?_
    refine V.ialdN (j := d) hG hF (by decide +kernel) hb (by omega) (by decide) ?_
    refine V.run hF [(.ineg, 1, .null), (.aload_n 0, 1, .null)] (pc' := 24) (L' := [some (.ref s), some (.int (nI d)), some (.int (nI c)), some (.ref t), some (.int (nI w)), none]) (st' := [.ref s, .int (-((pB P) d))]) (by decide +kernel) rfl ?_
    refine V.getf hG hF k_RX1_9 (by decide +kernel) hA rfl ?_
    refine V.run hF [(.iload_n 2, 1, .null)] (pc' := 28) (L' := [some (.ref s), some (.int (nI d)), some (.int (nI c)), some (.ref t), some (.int (nI w)), none]) (st' := [.int (nI c), .ref ba, .int (-((pB P) d))]) (by decide +kernel) rfl ?_
    refine V.ialdN (j := c) hG hF (by decide +kernel) hb (by omega) (by decide) ?_
    refine V.mmin hG hF tw_364 tw_mm1 tw_mm2 tw_mm3 (by decide +kernel) ⟨by rw [hRm]; decide, by rw [hRm]; decide⟩ ?_
    show V G F _ _ _ 32 [some (.ref s), some (.int (nI d)), some (.int (nI c)), some (.ref t), some (.int (nI w)), none] [.int (pamt (pB P) d c)] h
    refine V.run hF [(.istore 5, 2, .null), (.aload_n 0, 1, .null)] (pc' := 35) (L' := [some (.ref s), some (.int (nI d)), some (.int (nI c)), some (.ref t), some (.int (nI w)), some (.int (pamt (pB P) d c))]) (st' := [.ref s]) (by decide +kernel) rfl ?_
    refine V.getf hG hF k_RX1_9 (by decide +kernel) hA rfl ?_
    refine V.run hF [(.iload_n 1, 1, .null), (.dup2, 1, .null)] (pc' := 40) (L' := [some (.ref s), some (.int (nI d)), some (.int (nI c)), some (.ref t), some (.int (nI w)), some (.int (pamt (pB P) d c))]) (st' := [.int (nI d), .ref ba, .int (nI d), .ref ba]) (by decide +kernel) rfl ?_
    refine V.ialdN (j := d) hG hF (by decide +kernel) hb (by omega) (by decide) ?_
    refine V.run hF [(.iload 5, 2, .null), (.iadd, 1, .null)] (pc' := 44) (L' := [some (.ref s), some (.int (nI d)), some (.int (nI c)), some (.ref t), some (.int (nI w)), some (.int (pamt (pB P) d c))]) (st' := [.int ((pB P) d + pamt (pB P) d c), .int (nI d), .ref ba]) (by decide +kernel) rfl ?_
    refine V.iastN (j := d) hG hF (by decide +kernel) hb (by omega) (by decide) ?_
    obtain ⟨h_2, gh2⟩ : ∃ z : Hp, z = hset h ba (.inl (0, 8, .inl (upd (pB P) d ((pB P) d + pamt (pB P) d c)))) := ⟨_, rfl⟩
    refine V.hp gh2 ?_
    have gk2 : ∀ q : Nat, q ≠ ba → h_2 q = h q := fun q hq => by rw [gh2]; exact hset_ne hq
    have gs2 : h_2 ba = some (.inl (0, 8, .inl (upd (pB P) d ((pB P) d + pamt (pB P) d c)))) := by rw [gh2]; exact hset_eq
    refine V.run hF [(.aload_n 0, 1, .null)] (pc' := 46) (L' := [some (.ref s), some (.int (nI d)), some (.int (nI c)), some (.ref t), some (.int (nI w)), some (.int (pamt (pB P) d c))]) (st' := [.ref s]) (by decide +kernel) rfl ?_
    have gf3 : h_2 s = some (.inr (1, [.ref ba, .ref nl])) := (gk2 s (by first | assumption | exact Ne.symm (by assumption) | omega)).trans hA
    refine V.getf hG hF k_RX1_9 (by decide +kernel) gf3 rfl ?_
    refine V.run hF [(.iload_n 2, 1, .null), (.dup2, 1, .null)] (pc' := 51) (L' := [some (.ref s), some (.int (nI d)), some (.int (nI c)), some (.ref t), some (.int (nI w)), some (.int (pamt (pB P) d c))]) (st' := [.int (nI c), .ref ba, .int (nI c), .ref ba]) (by decide +kernel) rfl ?_
    refine V.ialdN (j := c) hG hF (by decide +kernel) gs2 (by omega) (by decide) ?_
    refine V.run hF [(.iload 5, 2, .null), (.isub, 1, .null)] (pc' := 55) (L' := [some (.ref s), some (.int (nI d)), some (.int (nI c)), some (.ref t), some (.int (nI w)), some (.int (pamt (pB P) d c))]) (st' := [.int ((upd (pB P) d ((pB P) d + pamt (pB P) d c)) c - pamt (pB P) d c), .int (nI c), .ref ba]) (by decide +kernel) rfl ?_
    refine V.iastN (j := c) hG hF (by decide +kernel) gs2 (by omega) (by decide) ?_
    obtain ⟨h_4, gh4⟩ : ∃ z : Hp, z = hset h_2 ba (.inl (0, 8, .inl (upd (upd (pB P) d ((pB P) d + pamt (pB P) d c)) c ((upd (pB P) d ((pB P) d + pamt (pB P) d c)) c - pamt (pB P) d c)))) := ⟨_, rfl⟩
    refine V.hp gh4 ?_
    have gk4 : ∀ q : Nat, q ≠ ba → h_4 q = h_2 q := fun q hq => by rw [gh4]; exact hset_ne hq
    have gs4 : h_4 ba = some (.inl (0, 8, .inl (upd (upd (pB P) d ((pB P) d + pamt (pB P) d c)) c ((upd (pB P) d ((pB P) d + pamt (pB P) d c)) c - pamt (pB P) d c)))) := by rw [gh4]; exact hset_eq
    refine V.run hF [(.aload_n 0, 1, .null)] (pc' := 57) (L' := [some (.ref s), some (.int (nI d)), some (.int (nI c)), some (.ref t), some (.int (nI w)), some (.int (pamt (pB P) d c))]) (st' := [.ref s]) (by decide +kernel) rfl ?_
    have gf5 : h_4 s = some (.inr (1, [.ref ba, .ref nl])) := (gk4 s (by first | assumption | exact Ne.symm (by assumption) | omega)).trans gf3
    refine V.getf hG hF k_RX1_18 (by decide +kernel) gf5 rfl ?_
    refine V.run hF [(.iload_n 1, 1, .null), (.iload_n 2, 1, .null), (.iload 5, 2, .null), (.iload 4, 2, .null)] (pc' := 66) (L' := [some (.ref s), some (.int (nI d)), some (.int (nI c)), some (.ref t), some (.int (nI w)), some (.int (pamt (pB P) d c))]) (st' := [.int (nI w), .int (pamt (pB P) d c), .int (nI c), .int (nI d), .ref nl]) (by decide +kernel) rfl ?_
    have hL4 := hL.mv (h' := h_4) (fun q hq => ((gk4 q (b1q q hq)).trans ((gk2 q (b1q q hq)))))
    have hs4 := gs4
    have hs5 := gf5
    have hkk : kp6 h h_4 ba nl nd nc nm nw := fun q e1 _ _ _ _ _ => ((gk4 q e1).trans ((gk2 q e1)))
    refine V.callVN (As := [.int (nI d), .int (nI c), .int (pamt (pB P) d c), .int (nI w)]) (st := []) hG hF k_RX1_51 (by decide +kernel) (c_X0_append hG hL4 h4 hn _ _ _ _) hL4.1 rfl rfl ⟨by rw [hRm]; decide, by rw [hRm]; decide⟩ (Nat.le_of_ble_eq_true rfl) rfl (fun v h_6 gp6 => ?_)
    obtain ⟨rfl, hL5, hk5⟩ := gp6
    show V G F _ _ _ 69 [some (.ref s), some (.int (nI d)), some (.int (nI c)), some (.ref t), some (.int (nI w)), some (.int (pamt (pB P) d c))] [] h_6
    refine V.run hF [(.iconst 1, 1, .int 1)] (pc' := 70) (L' := [some (.ref s), some (.int (nI d)), some (.int (nI c)), some (.ref t), some (.int (nI w)), some (.int (pamt (pB P) d c))]) (st' := [.int 1]) (by decide +kernel) rfl ?_
    exact V.retz hF (by decide +kernel) rfl (Or.inr ⟨w, hw, rfl, ⟨(hk5 s sn2 sn3 sn4 sn5 sn6).trans hs5, (hk5 ba b1 b2 b3 b4 b5).trans hs4, hL5⟩, hkk.tr hk5.k6⟩)
  · skip
    refine V.run hF [(.iconst 0, 1, .int 0)] (pc' := 15) (L' := [some (.ref s), some (.int (nI d)), some (.int (nI c)), some (.ref t), some (.int (on (wf th d c 8 0))), none]) (st' := [.int 0]) (by decide +kernel) rfl ?_
    exact V.retz hF (by decide +kernel) rfl (Or.inl ⟨by
      cases hw : wf th d c 8 0 with
      | none => rfl
      | some w =>
        have hlt := wf_lt hw
        rw [hw] at c1
        have : nI w = -1 := c1
        exact absurd (show nI w < 0 by rw [this]; decide) (nI_pos (by omega)), rfl, rfl⟩)
/-- a plan of f steps from P on goes on at most so long -/
theorem pl_n {th : Nat → Int32} : ∀ (f : Nat) (P : PS), pn (pl th f P).2 ≤ pn P + f
  | 0, P => Nat.le_refl _
  | f + 1, P => by
    unfold pl
    split
    · split
      · exact Nat.le_add_right _ _
      · have := pl_n (th := th) f (pstp P (pmin (pB P) 7) (pmax (pB P) 7) ‹_›)
        have e : pn (pstp P (pmin (pB P) 7) (pmax (pB P) 7) ‹_›) = pn P + 1 := rfl
        omega
    · exact Nat.le_add_right _ _
end Pl
