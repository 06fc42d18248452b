/-! ===== TallyWax: smooth ===== -/
section Ot
variable {G : Gt} {h : Hp} {A : Nat → Nat} {σ : Sg} {P : PS} {r : Nat → Int32}
def smP (σ : Sg) (P : PS) (t : Nat) : PS := (pl (gth σ) 8 (pl0 (gDD σ t) (gC σ t) (gM σ t) (gn σ t) P)).2
def sSm (σ : Sg) (P : PS) (t : Nat) : Sg := sTab σ t (gha σ t) (gce σ t) (pn (smP σ P t)) (mxk (pn (smP σ P t)) (pD (smP σ P t)) (gDD σ t)) (mxk (pn (smP σ P t)) (pC (smP σ P t)) (gC σ t)) (mxk (pn (smP σ P t)) (pM (smP σ P t)) (gM σ t)) (mxk (pn (smP σ P t)) (pW (smP σ P t)) (gW σ t))
theorem CS.dj5 (hC : CS h A σ P r) {t : Nat} (ht : t < gT σ) : dj5 (A 7) (A 8) (A 9) (A 10) (A 11) (A (13 + 6 * t)) (A (14 + 6 * t)) (A (15 + 6 * t)) (A (16 + 6 * t)) (A (17 + 6 * t)) := by
  intro x hx y hy
  simp only [List.mem_cons, List.not_mem_nil, or_false] at hx hy
  rcases hx with rfl | rfl | rfl | rfl | rfl <;> rcases hy with rfl | rfl | rfl | rfl | rfl <;> exact hC.1.ne (by omega) (by omega) (by omega)
set_option maxHeartbeats 8000000 in
theorem c_X3_smooth (hG : GOk G) (hC : CS h A σ P r) (x : Int32) : Ct G yX3_smooth (.code yX3_smooth cX3_smooth 3 (some .int)) 7 104 2 12 [.ref (A 0), .int x] h
    (fun v h' => ∃ t, t < gT σ ∧ x = nI t ∧ (pr (gth σ) 8 (gbal σ t)).1 = true ∧ v = some (.int (nI (pn (smP σ P t)))) ∧ CS h' A (sSm σ P t) (smP σ P t) r ∧ kpC h h' A (12 + 6 * gT σ))
    (fun E h' => (E = eI ∧ ¬ okT σ x ∧ h' = h) ∨ (E = eS ∧ ∃ t, t < gT σ ∧ x = nI t ∧ ¬ (pr (gth σ) 8 (gbal σ t)).1 = true ∧ CS h' A σ (smP σ P t) r ∧ kpC h h' A (12 + 6 * gT σ))) := by
  refine Ct.of (by decide +kernel) (Nat.le_of_ble_eq_true rfl) fun F hF hT hN hRm => ?_
  obtain ⟨hI, hT8, hA, h1, h2, h3, h4, h5, h6⟩ := id hC
  refine V.run hF [(.aload_n 0, 1, .null), (.iload_n 1, 1, .null)] (pc' := 2) (L' := [some (.ref (A 0)), some (.int x), none]) (st' := [.int x, .ref (A 0)]) (by decide +kernel) rfl ?_
  refine V.callV (As := [.int x]) (st := []) hG hF k_RX3_52 (by decide +kernel) (c_X3_tabletAt hG hC x) hA rfl rfl ⟨by rw [hRm]; decide, by rw [hRm]; decide⟩ (Nat.le_of_ble_eq_true rfl) rfl (fun v h1' hp => ?_) (fun E h9 hx => VX.out hF hT (Or.inl ⟨hx.1, okT_no hT8 hx.2.1, hx.2.2⟩))
  obtain ⟨⟨t, ht, rfl, rfl⟩, he⟩ := hp
  rw [he]
  obtain ⟨t1, t2, t3⟩ := h6 t ht
  show V G F _ _ _ 5 [some (.ref (A 0)), some (.int (nI t)), none] [.ref (A (12 + 6 * t))] h
  refine V.getf hG hF k_RX3_56 (by decide +kernel) t1 rfl ?_
  refine V.run hF [(.astore_n 2, 1, .null), (.aload_n 0, 1, .null)] (pc' := 10) (L' := [some (.ref (A 0)), some (.int (nI t)), some (.ref (A (13 + 6 * t)))]) (st' := [.ref (A 0)]) (by decide +kernel) rfl ?_
  refine V.getf hG hF k_RX3_26 (by decide +kernel) hA rfl ?_
  refine V.run hF [(.aload_n 2, 1, .null), (.aload_n 0, 1, .null)] (pc' := 15) (L' := [some (.ref (A 0)), some (.int (nI t)), some (.ref (A (13 + 6 * t)))]) (st' := [.ref (A 0), .ref (A (13 + 6 * t)), .ref (A 4)]) (by decide +kernel) rfl ?_
  refine V.getf hG hF k_RX3_9 (by decide +kernel) hA rfl ?_
  refine V.callVN (As := [.ref (A (13 + 6 * t)), .ref (A 1)]) (st := []) hG hF k_RX3_109 (by decide +kernel) (c_X1_plan hG h4 hC.nd6 t2 t3 h1 (hC.dj6 ht)) h4.1 rfl rfl ⟨by rw [hRm]; decide, by rw [hRm]; decide⟩ (Nat.le_of_ble_eq_true rfl) rfl (fun v h2 hp => ?_)
  obtain ⟨rfl, hS, hk⟩ := hp
  obtain ⟨e1, e2⟩ := pl_pr (th := gth σ) 8 (pl0 (gDD σ t) (gC σ t) (gM σ t) (gn σ t) P)
  rw [e1]
  have hS : SMc h2 (A 4) (A 6) (A 7) (A 8) (A 9) (A 10) (A 11) (smP σ P t) := hS
  have hC2 := hC.sm hS hk
  have hkC : kpC h h2 A (12 + 6 * gT σ) := kpC.k6 (by omega) hk
  obtain ⟨-, -, hA2, -, -, -, h42, -, h62⟩ := id hC2
  have e3 : pn (smP σ P t) = (pr (gth σ) 8 (gbal σ t)).2 := e2.trans (Nat.zero_add _)
  have hn12 : pn (smP σ P t) ≤ 12 := by
    have := pr_le (th := gth σ) 8 (gbal σ t)
    omega
  show V G F _ _ _ 21 [some (.ref (A 0)), some (.int (nI t)), some (.ref (A (13 + 6 * t)))] [.int (tf ((pr (gth σ) 8 (gbal σ t)).1 = true))] h2
  refine V.if_ne hF (off := 13) (tgt := 34) (by decide +kernel) (by decide) (fun c1 => ?_) (fun c1 => ?_)
  · skip
    refine V.run hF [(.aload_n 2, 1, .null), (.aload_n 0, 1, .null)] (pc' := 36) (L' := [some (.ref (A 0)), some (.int (nI t)), some (.ref (A (13 + 6 * t)))]) (st' := [.ref (A 0), .ref (A (13 + 6 * t))]) (by decide +kernel) rfl ?_
    refine V.getf hG hF k_RX3_26 (by decide +kernel) hA2 rfl ?_
    refine V.getf hG hF k_RX3_115 (by decide +kernel) h42.1 rfl ?_
    refine V.callVN (As := [.ref (A 7)]) (st := []) hG hF k_RX3_118 (by decide +kernel) (c_X0_become hG (h62 t ht).2.1 (hC.nd4 ht) h42.2.2 (hC.dj5 ht) hn12) (h62 t ht).2.1.1 rfl rfl ⟨by rw [hRm]; decide, by rw [hRm]; decide⟩ (Nat.le_of_ble_eq_true rfl) rfl (fun v1 h3 hp => ?_)
    obtain ⟨hv, hL, hk3⟩ := hp
    rw [hv]
    obtain ⟨hC3, hk4⟩ := hC2.ln ht hL hn12 hk3
    show V G F _ _ _ 45 [some (.ref (A 0)), some (.int (nI t)), some (.ref (A (13 + 6 * t)))] [] h3
    refine V.run hF [(.aload_n 2, 1, .null)] (pc' := 46) (L' := [some (.ref (A 0)), some (.int (nI t)), some (.ref (A (13 + 6 * t)))]) (st' := [.ref (A (13 + 6 * t))]) (by decide +kernel) rfl ?_
    refine V.getf hG hF k_RX3_67 (by decide +kernel) hL.1 rfl ?_
    exact V.reti hF (by decide +kernel) ⟨t, ht, rfl, tf_1 c1, rfl, hC3, hkC.tr hk4⟩
  · skip
    exact V.throwS hG hF hT kt_RX3_113 (by decide +kernel) (by decide +kernel) (by decide +kernel) (by decide +kernel) (by decide +kernel) ⟨by rw [hRm]; decide, by rw [hRm]; decide⟩ (Or.inr ⟨rfl, t, ht, rfl, tf_0 c1, hC2, hkC⟩)
end Ot
