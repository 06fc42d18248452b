/-! ===== TallyWax: public operations that change ===== -/
section Op
variable {G : Gt} {h : Hp} {A : Nat → Nat} {σ : Sg} {P : PS} {r : Nat → Int32}
abbrev ng (x : Int32) : Int32 := if x = 0 then 1 else 0
theorem ng01 (x : Int32) : b01 (ng x) := tf01 _
theorem upd_s {f : Nat → Int32} {k : Nat} {v : Int32} : upd f k v k = v := if_pos rfl
set_option maxHeartbeats 4000000 in
theorem c_X3_turn (hG : GOk G) (hC : CS h A σ P r) (x : Int32) : Ct G yX3_turn (.code yX3_turn cX3_turn 2 (some .boolean)) 7 102 1 6 [.ref (A 0), .int x] h
    (fun v h' => ∃ p, p < 8 ∧ x = nI p ∧ v = some (.int (ng (gth σ p))) ∧ CS h' A (sTh σ (upd (gth σ) p (ng (gth σ p)))) P r ∧ kpC h h' A (12 + 6 * gT σ)) (pxI (inP x) h) := by
  refine Ct.of (by decide +kernel) (Nat.le_of_ble_eq_true rfl) fun F hF hT hN hRm => ?_
  obtain ⟨hI, hT8, hA, h1, h2, h3, h4, h5, h6⟩ := id hC
  refine V.run hF [(.iload_n 1, 1, .null)] (pc' := 1) (L' := [some (.ref (A 0)), some (.int x)]) (st' := [.int x]) (by decide +kernel) rfl ?_
  refine V.callS (As := [.int x]) (st := []) hG hF k_RX3_60 (by decide +kernel) (c_X3_checkPerson hG x) rfl ⟨by rw [hRm]; decide, by rw [hRm]; decide⟩ (Nat.le_of_ble_eq_true rfl) rfl (fun v h1' hp => ?_) (fun E h9 hx => VX.out hF hT ⟨hx.1, hx.2.1, hx.2.2⟩)
  obtain ⟨hv, hx, he⟩ := hp
  rw [he, hv]
  show V G F _ _ _ 4 [some (.ref (A 0)), some (.int x)] [] h
  obtain ⟨p, hp8, rfl⟩ := inP_of hx
  have ne01 : A 0 ≠ A 1 := hI.ne (by omega) (by omega) (by omega)
  refine V.run hF [(.aload_n 0, 1, .null)] (pc' := 5) (L' := [some (.ref (A 0)), some (.int (nI p))]) (st' := [.ref (A 0)]) (by decide +kernel) rfl ?_
  refine V.getf hG hF k_RX3_9 (by decide +kernel) hA rfl ?_
  refine V.run hF [(.iload_n 1, 1, .null), (.aload_n 0, 1, .null)] (pc' := 10) (L' := [some (.ref (A 0)), some (.int (nI p))]) (st' := [.ref (A 0), .int (nI p), .ref (A 1)]) (by decide +kernel) rfl ?_
  refine V.getf hG hF k_RX3_9 (by decide +kernel) hA rfl ?_
  refine V.run hF [(.iload_n 1, 1, .null)] (pc' := 14) (L' := [some (.ref (A 0)), some (.int (nI p))]) (st' := [.int (nI p), .ref (A 1), .int (nI p), .ref (A 1)]) (by decide +kernel) rfl ?_
  refine V.zaldN (j := p) hG hF (by decide +kernel) h1 (by omega) (by decide) ?_
  refine V.if_ne hF (off := 7) (tgt := 22) (by decide +kernel) (by decide) (fun c1 => ?_) (fun c1 => ?_)
  · skip
    refine V.run hF [(.iconst 0, 1, .int 0)] (pc' := 23) (L' := [some (.ref (A 0)), some (.int (nI p))]) (st' := [.int 0, .int (nI p), .ref (A 1)]) (by decide +kernel) rfl ?_
    have e : ng (gth σ p) = 0 := if_neg c1
    refine V.zastN (j := p) hG hF (by decide +kernel) h1 (by omega) (by decide) rfl ?_
    obtain ⟨h_2, gh2⟩ : ∃ z : Hp, z = hset h (A 1) (.inl (1, 8, .inl (upd (gth σ) p 0))) := ⟨_, rfl⟩
    refine V.hp gh2 ?_
    have gk2 : ∀ q : Nat, q ≠ (A 1) → h_2 q = h q := fun q hq => by rw [gh2]; exact hset_ne hq
    have gs2 : h_2 (A 1) = some (.inl (1, 8, .inl (upd (gth σ) p 0))) := by rw [gh2]; exact hset_eq
    have hC2 := hC.th (th := upd (gth σ) p 0) gs2 (fun q hq => gk2 q hq)
    refine V.run hF [(.aload_n 0, 1, .null)] (pc' := 25) (L' := [some (.ref (A 0)), some (.int (nI p))]) (st' := [.ref (A 0)]) (by decide +kernel) rfl ?_
    have gf3 : h_2 (A 0) = some (.inr (3, [.ref (A 1), .ref (A 2), .ref (A 3), .ref (A 4), .ref (A 5), .int (nI (gT σ)), .int (nI (gy σ)), .int (gme σ), .int (gde σ)])) := (gk2 (A 0) (by first | assumption | exact Ne.symm (by assumption) | omega)).trans hA
    refine V.getf hG hF k_RX3_9 (by decide +kernel) gf3 rfl ?_
    refine V.run hF [(.iload_n 1, 1, .null)] (pc' := 29) (L' := [some (.ref (A 0)), some (.int (nI p))]) (st' := [.int (nI p), .ref (A 1)]) (by decide +kernel) rfl ?_
    refine V.zaldN (j := p) hG hF (by decide +kernel) gs2 (by omega) (by decide) ?_
    rw [upd_s]
    exact V.retz hF (by decide +kernel) (nz (Or.inl rfl)) ⟨p, hp8, rfl, by rw [e], by rw [e]; exact hC2, kpC.one (by omega) (fun q hq => gk2 q hq)⟩
  · skip
    have e : ng (gth σ p) = 1 := if_pos c1
    refine V.run hF [(.iconst 1, 1, .int 1), (.goto 4, 3, .null)] (pc' := 23) (L' := [some (.ref (A 0)), some (.int (nI p))]) (st' := [.int 1, .int (nI p), .ref (A 1)]) (by decide +kernel) rfl ?_
    refine V.zastN (j := p) hG hF (by decide +kernel) h1 (by omega) (by decide) rfl ?_
    obtain ⟨h_4, gh4⟩ : ∃ z : Hp, z = hset h (A 1) (.inl (1, 8, .inl (upd (gth σ) p 1))) := ⟨_, rfl⟩
    refine V.hp gh4 ?_
    have gk4 : ∀ q : Nat, q ≠ (A 1) → h_4 q = h q := fun q hq => by rw [gh4]; exact hset_ne hq
    have gs4 : h_4 (A 1) = some (.inl (1, 8, .inl (upd (gth σ) p 1))) := by rw [gh4]; exact hset_eq
    have hC2 := hC.th (th := upd (gth σ) p 1) gs4 (fun q hq => gk4 q hq)
    refine V.run hF [(.aload_n 0, 1, .null)] (pc' := 25) (L' := [some (.ref (A 0)), some (.int (nI p))]) (st' := [.ref (A 0)]) (by decide +kernel) rfl ?_
    have gf5 : h_4 (A 0) = some (.inr (3, [.ref (A 1), .ref (A 2), .ref (A 3), .ref (A 4), .ref (A 5), .int (nI (gT σ)), .int (nI (gy σ)), .int (gme σ), .int (gde σ)])) := (gk4 (A 0) (by first | assumption | exact Ne.symm (by assumption) | omega)).trans hA
    refine V.getf hG hF k_RX3_9 (by decide +kernel) gf5 rfl ?_
    refine V.run hF [(.iload_n 1, 1, .null)] (pc' := 29) (L' := [some (.ref (A 0)), some (.int (nI p))]) (st' := [.int (nI p), .ref (A 1)]) (by decide +kernel) rfl ?_
    refine V.zaldN (j := p) hG hF (by decide +kernel) gs4 (by omega) (by decide) ?_
    rw [upd_s]
    exact V.retz hF (by decide +kernel) (nz (Or.inr rfl)) ⟨p, hp8, rfl, by rw [e], by rw [e]; exact hC2, kpC.one (by omega) (fun q hq => gk4 q hq)⟩
set_option maxHeartbeats 4000000 in
theorem c_X3_carry (hG : GOk G) (hC : CS h A σ P r) (x : Int32) : Ct G yX3_carry (.code yX3_carry cX3_carry 3 (some .boolean)) 7 104 2 12 [.ref (A 0), .int x] h
    (fun v h' => ∃ t, t < gT σ ∧ x = nI t ∧ v = some (.int (ng (gce σ t))) ∧ CS h' A (sTab σ t (gha σ t) (ng (gce σ t)) (gn σ t) (gDD σ t) (gC σ t) (gM σ t) (gW σ t)) P r ∧ kpC h h' A (12 + 6 * gT σ)) (pxI (okT σ x) h) := by
  refine Ct.of (by decide +kernel) (Nat.le_of_ble_eq_true rfl) fun F hF hT hN hRm => ?_
  obtain ⟨hI, hT8, hA, h1, h2, h3, h4, h5, h6⟩ := id hC
  refine V.run hF [(.aload_n 0, 1, .null), (.iload_n 1, 1, .null)] (pc' := 2) (L' := [some (.ref (A 0)), some (.int x), none]) (st' := [.int x, .ref (A 0)]) (by decide +kernel) rfl ?_
  refine V.callV (As := [.int x]) (st := []) hG hF k_RX3_52 (by decide +kernel) (c_X3_tabletAt hG hC x) hA rfl rfl ⟨by rw [hRm]; decide, by rw [hRm]; decide⟩ (Nat.le_of_ble_eq_true rfl) rfl (fun v h1' hp => ?_) (fun E h9 hx => VX.out hF hT ⟨hx.1, okT_no hT8 hx.2.1, hx.2.2⟩)
  obtain ⟨⟨t, ht, rfl, rfl⟩, he⟩ := hp
  rw [he]
  obtain ⟨t1, t2, t3⟩ := h6 t ht
  show V G F _ _ _ 5 [some (.ref (A 0)), some (.int (nI t)), none] [.ref (A (12 + 6 * t))] h
  refine V.run hF [(.astore_n 2, 1, .null), (.aload_n 2, 1, .null), (.aload_n 2, 1, .null)] (pc' := 8) (L' := [some (.ref (A 0)), some (.int (nI t)), some (.ref (A (12 + 6 * t)))]) (st' := [.ref (A (12 + 6 * t)), .ref (A (12 + 6 * t))]) (by decide +kernel) rfl ?_
  refine V.getf hG hF k_RX3_122 (by decide +kernel) t1 rfl ?_
  refine V.if_ne hF (off := 7) (tgt := 18) (by decide +kernel) (by decide) (fun c1 => ?_) (fun c1 => ?_)
  · have e : ng (gce σ t) = 0 := if_neg c1
    refine V.run hF [(.iconst 0, 1, .int 0)] (pc' := 19) (L' := [some (.ref (A 0)), some (.int (nI t)), some (.ref (A (12 + 6 * t)))]) (st' := [.int 0, .ref (A (12 + 6 * t))]) (by decide +kernel) rfl ?_
    refine V.putf hG hF k_RX3_122 (by decide +kernel) t1 (fun C T N hc => by cases hc; exact ⟨rfl, .boolean, by decide +kernel, (nz (Or.inl rfl)), (fz (Or.inl rfl))⟩) (Nat.le_of_ble_eq_true rfl) ?_
    obtain ⟨h_2, gh2⟩ : ∃ z : Hp, z = hset h (A (12 + 6 * t)) (.inr (2, [.int (gha σ t), .int 0, .ref (A (13 + 6 * t))])) := ⟨_, rfl⟩
    refine V.hp gh2 ?_
    have gk2 : ∀ q : Nat, q ≠ (A (12 + 6 * t)) → h_2 q = h q := fun q hq => by rw [gh2]; exact hset_ne hq
    have gs2 : h_2 (A (12 + 6 * t)) = some (.inr (2, [.int (gha σ t), .int 0, .ref (A (13 + 6 * t))])) := by rw [gh2]; exact hset_eq
    have hC2 := hC.tab (h' := h_2) ht (ha := gha σ t) (ce := 0) gs2 (t2.mv (fun q hq => gk2 q (by
      simp only [List.mem_cons, List.not_mem_nil, or_false] at hq
      rcases hq with rfl | rfl | rfl | rfl | rfl <;> exact hI.ne (by omega) (by omega) (by omega)))) t3 (fun q hq => gk2 q (hq _ (by omega) (by omega)))
    refine V.run hF [(.aload_n 2, 1, .null)] (pc' := 23) (L' := [some (.ref (A 0)), some (.int (nI t)), some (.ref (A (12 + 6 * t)))]) (st' := [.ref (A (12 + 6 * t))]) (by decide +kernel) rfl ?_
    refine V.getf hG hF k_RX3_122 (by decide +kernel) gs2 rfl ?_
    exact V.retz hF (by decide +kernel) (nz (Or.inl rfl)) ⟨t, ht, rfl, by rw [e], by rw [e]; exact hC2, kpC.one (by omega) (fun q hq => gk2 q hq)⟩
  · skip
    have e : ng (gce σ t) = 1 := if_pos c1
    refine V.run hF [(.iconst 1, 1, .int 1), (.goto 4, 3, .null)] (pc' := 19) (L' := [some (.ref (A 0)), some (.int (nI t)), some (.ref (A (12 + 6 * t)))]) (st' := [.int 1, .ref (A (12 + 6 * t))]) (by decide +kernel) rfl ?_
    refine V.putf hG hF k_RX3_122 (by decide +kernel) t1 (fun C T N hc => by cases hc; exact ⟨rfl, .boolean, by decide +kernel, (nz (Or.inr rfl)), (fz (Or.inr rfl))⟩) (Nat.le_of_ble_eq_true rfl) ?_
    obtain ⟨h_3, gh3⟩ : ∃ z : Hp, z = hset h (A (12 + 6 * t)) (.inr (2, [.int (gha σ t), .int 1, .ref (A (13 + 6 * t))])) := ⟨_, rfl⟩
    refine V.hp gh3 ?_
    have gk3 : ∀ q : Nat, q ≠ (A (12 + 6 * t)) → h_3 q = h q := fun q hq => by rw [gh3]; exact hset_ne hq
    have gs3 : h_3 (A (12 + 6 * t)) = some (.inr (2, [.int (gha σ t), .int 1, .ref (A (13 + 6 * t))])) := by rw [gh3]; exact hset_eq
    have hC2 := hC.tab (h' := h_3) ht (ha := gha σ t) (ce := 1) gs3 (t2.mv (fun q hq => gk3 q (by
      simp only [List.mem_cons, List.not_mem_nil, or_false] at hq
      rcases hq with rfl | rfl | rfl | rfl | rfl <;> exact hI.ne (by omega) (by omega) (by omega)))) t3 (fun q hq => gk3 q (hq _ (by omega) (by omega)))
    refine V.run hF [(.aload_n 2, 1, .null)] (pc' := 23) (L' := [some (.ref (A 0)), some (.int (nI t)), some (.ref (A (12 + 6 * t)))]) (st' := [.ref (A (12 + 6 * t))]) (by decide +kernel) rfl ?_
    refine V.getf hG hF k_RX3_122 (by decide +kernel) gs3 rfl ?_
    exact V.retz hF (by decide +kernel) (nz (Or.inr rfl)) ⟨t, ht, rfl, by rw [e], by rw [e]; exact hC2, kpC.one (by omega) (fun q hq => gk3 q hq)⟩
end Op
