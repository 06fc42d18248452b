/-! ===== TallyWaxModel: questions, second part ===== -/
section Ms
variable {G : Gt} {h : Hp} {B : Nat → Nat} {σ : Sg} {x : Int32} {u : Mu} {md hs : Nat → Int32}
set_option maxHeartbeats 4000000 in
theorem c_X4_isThere (hG : GOk G) (hM : MO h B σ x u md hs) (hR : RM σ u) (v : Int32) : Ct G yX4_isThere (.code yX4_isThere cX4_isThere 2 (some .boolean)) 2 42 0 0 [.ref (B 0), .int v] h (mq B σ u h (inP v) (gth σ v.toNatClampNeg)) pxN := by
  refine Ct.of (by decide +kernel) (Nat.le_of_ble_eq_true rfl) fun F hF hT hN hRm => ?_
  have h8 := hR.1
  refine V.run hF [(.aload_n 0, 1, .null), (.iload_n 1, 1, .null)] (pc' := 2) (L' := [some (.ref (B 0)), some (.int v)]) (st' := [.int v, .ref (B 0)]) (by decide +kernel) rfl ?_
  refine V.callS (As := [.int v]) (st := [.ref (B 0)]) hG hF k_RX4_90 (by decide +kernel) (c_X4_isPerson hG v) rfl ⟨by rw [hRm]; decide, by rw [hRm]; decide⟩ (Nat.le_of_ble_eq_true rfl) rfl (fun v h_1 gp1 => ?_) (fun E h9 hx => hx.elim)
  obtain ⟨rfl, he_gp1⟩ := gp1
  rw [he_gp1]
  show V G F _ _ _ 5 [some (.ref (B 0)), some (.int v)] [.int (tf (inP v)), .ref (B 0)] h
  refine V.if_eq hF (off := 7) (tgt := 12) (by decide +kernel) (by decide) (fun c1 => ?_) (fun c1 => ?_)
  · skip
    refine V.run hF [(.iconst 1, 1, .int 1)] (pc' := 13) (L' := [some (.ref (B 0)), some (.int v)]) (st' := [.int 1, .ref (B 0)]) (by decide +kernel) rfl ?_
    refine V.putf hG hF k_RX4_36 (by decide +kernel) hM.2.1 (fun C T N hc => by cases hc; exact ⟨rfl, .int, by decide +kernel, rfl, rfl⟩) (Nat.le_of_ble_eq_true rfl) ?_
    obtain ⟨h_2, gh2⟩ : ∃ z : Hp, z = hset h (B 0) (.inr (4, [.int 1, .int (uth u), .int (nI (gT σ)), .ref (B 1), .ref (B 2), .ref (B 3), .ref (B 4), .ref (B 5), .int (nI (gy σ)), .int (gme σ), .int (gde σ), .ref (B 6), .ref (B 7)])) := ⟨_, rfl⟩
    refine V.hp gh2 ?_
    have gk2 : ∀ q : Nat, q ≠ (B 0) → h_2 q = h q := fun q hq => by rw [gh2]; exact hset_ne hq
    have gs2 : h_2 (B 0) = some (.inr (4, [.int 1, .int (uth u), .int (nI (gT σ)), .ref (B 1), .ref (B 2), .ref (B 3), .ref (B 4), .ref (B 5), .int (nI (gy σ)), .int (gme σ), .int (gde σ), .ref (B 6), .ref (B 7)])) := by rw [gh2]; exact hset_eq
    have hM1 := hM.th gs2 (fun q hq => gk2 q hq)
    have hk1 : kpB h h_2 B := kpB.one (i := 0) (by omega) (fun q hq => gk2 q hq)
    obtain ⟨h1, eh1⟩ : ∃ z, z = h_2 := ⟨_, rfl⟩
    rw [← eh1] at hM1 hk1 ⊢
    refine V.run hF [(.aload_n 0, 1, .null)] (pc' := 17) (L' := [some (.ref (B 0)), some (.int v)]) (st' := [.ref (B 0)]) (by decide +kernel) rfl ?_
    refine V.getf hG hF k_RX4_36 (by decide +kernel) hM1.2.1 rfl ?_
    refine V.if_ne hF (off := 15) (tgt := 35) (by decide +kernel) (by decide) (fun c9 => ?_) (fun c9 => ?_)
    · skip
      refine V.run hF [(.iconst 0, 1, .int 0)] (pc' := 36) (L' := [some (.ref (B 0)), some (.int v)]) (st' := [.int 0]) (by decide +kernel) rfl ?_
      exact V.retz hF (by decide +kernel) rfl ⟨1, 0, rfl, Or.inr ⟨tf_0 c1, rfl⟩, _, _, hM1, hk1⟩
    · skip
      exact absurd c9 (by decide)
  · skip
    refine V.run hF [(.iconst 0, 1, .int 0), (.goto 4, 3, .null)] (pc' := 13) (L' := [some (.ref (B 0)), some (.int v)]) (st' := [.int 0, .ref (B 0)]) (by decide +kernel) rfl ?_
    refine V.putf hG hF k_RX4_36 (by decide +kernel) hM.2.1 (fun C T N hc => by cases hc; exact ⟨rfl, .int, by decide +kernel, rfl, rfl⟩) (Nat.le_of_ble_eq_true rfl) ?_
    obtain ⟨h_3, gh3⟩ : ∃ z : Hp, z = hset h (B 0) (.inr (4, [.int 0, .int (uth u), .int (nI (gT σ)), .ref (B 1), .ref (B 2), .ref (B 3), .ref (B 4), .ref (B 5), .int (nI (gy σ)), .int (gme σ), .int (gde σ), .ref (B 6), .ref (B 7)])) := ⟨_, rfl⟩
    refine V.hp gh3 ?_
    have gk3 : ∀ q : Nat, q ≠ (B 0) → h_3 q = h q := fun q hq => by rw [gh3]; exact hset_ne hq
    have gs3 : h_3 (B 0) = some (.inr (4, [.int 0, .int (uth u), .int (nI (gT σ)), .ref (B 1), .ref (B 2), .ref (B 3), .ref (B 4), .ref (B 5), .int (nI (gy σ)), .int (gme σ), .int (gde σ), .ref (B 6), .ref (B 7)])) := by rw [gh3]; exact hset_eq
    have hM1 := hM.th gs3 (fun q hq => gk3 q hq)
    have hk1 : kpB h h_3 B := kpB.one (i := 0) (by omega) (fun q hq => gk3 q hq)
    obtain ⟨h1, eh1⟩ : ∃ z, z = h_3 := ⟨_, rfl⟩
    rw [← eh1] at hM1 hk1 ⊢
    refine V.run hF [(.aload_n 0, 1, .null)] (pc' := 17) (L' := [some (.ref (B 0)), some (.int v)]) (st' := [.ref (B 0)]) (by decide +kernel) rfl ?_
    refine V.getf hG hF k_RX4_36 (by decide +kernel) hM1.2.1 rfl ?_
    refine V.if_ne hF (off := 15) (tgt := 35) (by decide +kernel) (by decide) (fun c9 => ?_) (fun c9 => ?_)
    · exact absurd rfl c9
    · skip
      obtain ⟨p, hp8, rfl⟩ := inP_of (tf_1 c1)
      have ep : (nI p).toNatClampNeg = p := nI_clamp (by omega)
      refine V.run hF [(.aload_n 0, 1, .null), (.iload_n 1, 1, .null)] (pc' := 25) (L' := [some (.ref (B 0)), some (.int (nI p))]) (st' := [.int (nI p), .ref (B 0)]) (by decide +kernel) rfl ?_
      refine V.callV (As := [.int (nI p)]) (st := []) hG hF k_RX4_64 (by decide +kernel) (c_X4_is hG hM1 hR hp8) hM1.2.1 rfl rfl ⟨by rw [hRm]; decide, by rw [hRm]; decide⟩ (Nat.le_of_ble_eq_true rfl) rfl (fun v h_4 gp4 => ?_) (fun E h9 hx => hx.elim)
      obtain ⟨rfl, he_gp4⟩ := gp4
      rw [he_gp4]
      show V G F _ _ _ 28 [some (.ref (B 0)), some (.int (nI p))] [.int (gth σ p)] h1
      refine V.if_eq hF (off := 7) (tgt := 35) (by decide +kernel) (by decide) (fun c3 => ?_) (fun c3 => ?_)
      · skip
        refine V.run hF [(.iconst 0, 1, .int 0)] (pc' := 36) (L' := [some (.ref (B 0)), some (.int (nI p))]) (st' := [.int 0]) (by decide +kernel) rfl ?_
        exact V.retz hF (by decide +kernel) rfl ⟨0, 0, rfl, Or.inl ⟨tf_1 c1, rfl, by rw [ep, c3]⟩, _, _, hM1, hk1⟩
      · skip
        have e3 : gth σ p = 1 := ((hR.2.1 p hp8).2).resolve_left c3
        refine V.run hF [(.iconst 1, 1, .int 1), (.goto 4, 3, .null)] (pc' := 36) (L' := [some (.ref (B 0)), some (.int (nI p))]) (st' := [.int 1]) (by decide +kernel) rfl ?_
        exact V.retz hF (by decide +kernel) rfl ⟨0, 1, rfl, Or.inl ⟨tf_1 c1, rfl, by rw [ep, e3]⟩, _, _, hM1, hk1⟩
set_option maxHeartbeats 4000000 in
theorem c_X4_isInCellar (hG : GOk G) (hM : MO h B σ x u md hs) (hR : RM σ u) (v : Int32) : Ct G yX4_isInCellar (.code yX4_isInCellar cX4_isInCellar 2 (some .boolean)) 2 43 0 0 [.ref (B 0), .int v] h (mq B σ u h (inT σ v) (gce σ v.toNatClampNeg)) pxN := by
  refine Ct.of (by decide +kernel) (Nat.le_of_ble_eq_true rfl) fun F hF hT hN hRm => ?_
  have h8 := hR.1
  refine V.run hF [(.aload_n 0, 1, .null), (.aload_n 0, 1, .null), (.iload_n 1, 1, .null)] (pc' := 3) (L' := [some (.ref (B 0)), some (.int v)]) (st' := [.int v, .ref (B 0), .ref (B 0)]) (by decide +kernel) rfl ?_
  refine V.callV (As := [.int v]) (st := [.ref (B 0)]) hG hF k_RX4_46 (by decide +kernel) (c_X4_isTablet hG hM hR.1 v) hM.2.1 rfl rfl ⟨by rw [hRm]; decide, by rw [hRm]; decide⟩ (Nat.le_of_ble_eq_true rfl) rfl (fun v h_1 gp1 => ?_) (fun E h9 hx => hx.elim)
  obtain ⟨rfl, he_gp1⟩ := gp1
  rw [he_gp1]
  show V G F _ _ _ 6 [some (.ref (B 0)), some (.int v)] [.int (tf (inT σ v)), .ref (B 0)] h
  refine V.if_eq hF (off := 7) (tgt := 13) (by decide +kernel) (by decide) (fun c1 => ?_) (fun c1 => ?_)
  · skip
    refine V.run hF [(.iconst 1, 1, .int 1)] (pc' := 14) (L' := [some (.ref (B 0)), some (.int v)]) (st' := [.int 1, .ref (B 0)]) (by decide +kernel) rfl ?_
    refine V.putf hG hF k_RX4_36 (by decide +kernel) hM.2.1 (fun C T N hc => by cases hc; exact ⟨rfl, .int, by decide +kernel, rfl, rfl⟩) (Nat.le_of_ble_eq_true rfl) ?_
    obtain ⟨h_2, gh2⟩ : ∃ z : Hp, z = hset h (B 0) (.inr (4, [.int 1, .int (uth u), .int (nI (gT σ)), .ref (B 1), .ref (B 2), .ref (B 3), .ref (B 4), .ref (B 5), .int (nI (gy σ)), .int (gme σ), .int (gde σ), .ref (B 6), .ref (B 7)])) := ⟨_, rfl⟩
    refine V.hp gh2 ?_
    have gk2 : ∀ q : Nat, q ≠ (B 0) → h_2 q = h q := fun q hq => by rw [gh2]; exact hset_ne hq
    have gs2 : h_2 (B 0) = some (.inr (4, [.int 1, .int (uth u), .int (nI (gT σ)), .ref (B 1), .ref (B 2), .ref (B 3), .ref (B 4), .ref (B 5), .int (nI (gy σ)), .int (gme σ), .int (gde σ), .ref (B 6), .ref (B 7)])) := by rw [gh2]; exact hset_eq
    have hM1 := hM.th gs2 (fun q hq => gk2 q hq)
    have hk1 : kpB h h_2 B := kpB.one (i := 0) (by omega) (fun q hq => gk2 q hq)
    obtain ⟨h1, eh1⟩ : ∃ z, z = h_2 := ⟨_, rfl⟩
    rw [← eh1] at hM1 hk1 ⊢
    refine V.run hF [(.aload_n 0, 1, .null)] (pc' := 18) (L' := [some (.ref (B 0)), some (.int v)]) (st' := [.ref (B 0)]) (by decide +kernel) rfl ?_
    refine V.getf hG hF k_RX4_36 (by decide +kernel) hM1.2.1 rfl ?_
    refine V.if_ne hF (off := 16) (tgt := 37) (by decide +kernel) (by decide) (fun c9 => ?_) (fun c9 => ?_)
    · skip
      refine V.run hF [(.iconst 0, 1, .int 0)] (pc' := 38) (L' := [some (.ref (B 0)), some (.int v)]) (st' := [.int 0]) (by decide +kernel) rfl ?_
      exact V.retz hF (by decide +kernel) rfl ⟨1, 0, rfl, Or.inr ⟨tf_0 c1, rfl⟩, _, _, hM1, hk1⟩
    · skip
      exact absurd c9 (by decide)
  · skip
    refine V.run hF [(.iconst 0, 1, .int 0), (.goto 4, 3, .null)] (pc' := 14) (L' := [some (.ref (B 0)), some (.int v)]) (st' := [.int 0, .ref (B 0)]) (by decide +kernel) rfl ?_
    refine V.putf hG hF k_RX4_36 (by decide +kernel) hM.2.1 (fun C T N hc => by cases hc; exact ⟨rfl, .int, by decide +kernel, rfl, rfl⟩) (Nat.le_of_ble_eq_true rfl) ?_
    obtain ⟨h_3, gh3⟩ : ∃ z : Hp, z = hset h (B 0) (.inr (4, [.int 0, .int (uth u), .int (nI (gT σ)), .ref (B 1), .ref (B 2), .ref (B 3), .ref (B 4), .ref (B 5), .int (nI (gy σ)), .int (gme σ), .int (gde σ), .ref (B 6), .ref (B 7)])) := ⟨_, rfl⟩
    refine V.hp gh3 ?_
    have gk3 : ∀ q : Nat, q ≠ (B 0) → h_3 q = h q := fun q hq => by rw [gh3]; exact hset_ne hq
    have gs3 : h_3 (B 0) = some (.inr (4, [.int 0, .int (uth u), .int (nI (gT σ)), .ref (B 1), .ref (B 2), .ref (B 3), .ref (B 4), .ref (B 5), .int (nI (gy σ)), .int (gme σ), .int (gde σ), .ref (B 6), .ref (B 7)])) := by rw [gh3]; exact hset_eq
    have hM1 := hM.th gs3 (fun q hq => gk3 q hq)
    have hk1 : kpB h h_3 B := kpB.one (i := 0) (by omega) (fun q hq => gk3 q hq)
    obtain ⟨h1, eh1⟩ : ∃ z, z = h_3 := ⟨_, rfl⟩
    rw [← eh1] at hM1 hk1 ⊢
    refine V.run hF [(.aload_n 0, 1, .null)] (pc' := 18) (L' := [some (.ref (B 0)), some (.int v)]) (st' := [.ref (B 0)]) (by decide +kernel) rfl ?_
    refine V.getf hG hF k_RX4_36 (by decide +kernel) hM1.2.1 rfl ?_
    refine V.if_ne hF (off := 16) (tgt := 37) (by decide +kernel) (by decide) (fun c9 => ?_) (fun c9 => ?_)
    · exact absurd rfl c9
    · skip
      obtain ⟨t, ht, rfl⟩ := (inT_iff hR.1).mp (tf_1 c1)
      have et : (nI t).toNatClampNeg = t := nI_clamp (by omega)
      obtain ⟨ea, eb, ez, em, en, -⟩ := hR.2.2.2.1 t ht
      refine V.run hF [(.aload_n 0, 1, .null)] (pc' := 25) (L' := [some (.ref (B 0)), some (.int (nI t))]) (st' := [.ref (B 0)]) (by decide +kernel) rfl ?_
      refine V.getf hG hF k_RX4_17 (by decide +kernel) hM1.2.1 rfl ?_
      refine V.run hF [(.iload_n 1, 1, .null)] (pc' := 29) (L' := [some (.ref (B 0)), some (.int (nI t))]) (st' := [.int (nI t), .ref (B 2)]) (by decide +kernel) rfl ?_
      refine V.zaldN (j := t) hG hF (by decide +kernel) hM1.2.2.2.1 (by omega) (by decide) ?_
      rw [eb]
      refine V.if_eq hF (off := 7) (tgt := 37) (by decide +kernel) (by decide) (fun c3 => ?_) (fun c3 => ?_)
      · skip
        refine V.run hF [(.iconst 0, 1, .int 0)] (pc' := 38) (L' := [some (.ref (B 0)), some (.int (nI t))]) (st' := [.int 0]) (by decide +kernel) rfl ?_
        exact V.retz hF (by decide +kernel) rfl ⟨0, 0, rfl, Or.inl ⟨tf_1 c1, rfl, by rw [et, c3]⟩, _, _, hM1, hk1⟩
      · skip
        have e3 : gce σ t = 1 := ez.resolve_left c3
        refine V.run hF [(.iconst 1, 1, .int 1), (.goto 4, 3, .null)] (pc' := 38) (L' := [some (.ref (B 0)), some (.int (nI t))]) (st' := [.int 1]) (by decide +kernel) rfl ?_
        exact V.retz hF (by decide +kernel) rfl ⟨0, 1, rfl, Or.inl ⟨tf_1 c1, rfl, by rw [et, e3]⟩, _, _, hM1, hk1⟩
set_option maxHeartbeats 4000000 in
theorem c_X4_isWitnessed (hG : GOk G) (hM : MO h B σ x u md hs) (hR : RM σ u) (v w : Int32) : Ct G yX4_isWitnessed (.code yX4_isWitnessed cX4_isWitnessed 3 (some .boolean)) 3 65 0 0 [.ref (B 0), .int v, .int w] h (mq B σ u h (inL σ v w) (gth σ (gW σ v.toNatClampNeg w.toNatClampNeg).toNatClampNeg)) pxN := by
  refine Ct.of (by decide +kernel) (Nat.le_of_ble_eq_true rfl) fun F hF hT hN hRm => ?_
  have h8 := hR.1
  refine V.run hF [(.aload_n 0, 1, .null), (.aload_n 0, 1, .null), (.iload_n 1, 1, .null), (.iload_n 2, 1, .null)] (pc' := 4) (L' := [some (.ref (B 0)), some (.int v), some (.int w)]) (st' := [.int w, .int v, .ref (B 0), .ref (B 0)]) (by decide +kernel) rfl ?_
  refine V.callV (As := [.int v, .int w]) (st := [.ref (B 0)]) hG hF k_RX4_93 (by decide +kernel) (c_X4_isLine hG hM hR v w) hM.2.1 rfl rfl ⟨by rw [hRm]; decide, by rw [hRm]; decide⟩ (Nat.le_of_ble_eq_true rfl) rfl (fun v h_1 gp1 => ?_) (fun E h9 hx => hx.elim)
  obtain ⟨rfl, he_gp1⟩ := gp1
  rw [he_gp1]
  show V G F _ _ _ 7 [some (.ref (B 0)), some (.int v), some (.int w)] [.int (tf (inL σ v w)), .ref (B 0)] h
  refine V.if_eq hF (off := 7) (tgt := 14) (by decide +kernel) (by decide) (fun c1 => ?_) (fun c1 => ?_)
  · skip
    refine V.run hF [(.iconst 1, 1, .int 1)] (pc' := 15) (L' := [some (.ref (B 0)), some (.int v), some (.int w)]) (st' := [.int 1, .ref (B 0)]) (by decide +kernel) rfl ?_
    refine V.putf hG hF k_RX4_36 (by decide +kernel) hM.2.1 (fun C T N hc => by cases hc; exact ⟨rfl, .int, by decide +kernel, rfl, rfl⟩) (Nat.le_of_ble_eq_true rfl) ?_
    obtain ⟨h_2, gh2⟩ : ∃ z : Hp, z = hset h (B 0) (.inr (4, [.int 1, .int (uth u), .int (nI (gT σ)), .ref (B 1), .ref (B 2), .ref (B 3), .ref (B 4), .ref (B 5), .int (nI (gy σ)), .int (gme σ), .int (gde σ), .ref (B 6), .ref (B 7)])) := ⟨_, rfl⟩
    refine V.hp gh2 ?_
    have gk2 : ∀ q : Nat, q ≠ (B 0) → h_2 q = h q := fun q hq => by rw [gh2]; exact hset_ne hq
    have gs2 : h_2 (B 0) = some (.inr (4, [.int 1, .int (uth u), .int (nI (gT σ)), .ref (B 1), .ref (B 2), .ref (B 3), .ref (B 4), .ref (B 5), .int (nI (gy σ)), .int (gme σ), .int (gde σ), .ref (B 6), .ref (B 7)])) := by rw [gh2]; exact hset_eq
    have hM1 := hM.th gs2 (fun q hq => gk2 q hq)
    have hk1 : kpB h h_2 B := kpB.one (i := 0) (by omega) (fun q hq => gk2 q hq)
    obtain ⟨h1, eh1⟩ : ∃ z, z = h_2 := ⟨_, rfl⟩
    rw [← eh1] at hM1 hk1 ⊢
    refine V.run hF [(.aload_n 0, 1, .null)] (pc' := 19) (L' := [some (.ref (B 0)), some (.int v), some (.int w)]) (st' := [.ref (B 0)]) (by decide +kernel) rfl ?_
    refine V.getf hG hF k_RX4_36 (by decide +kernel) hM1.2.1 rfl ?_
    refine V.if_ne hF (off := 21) (tgt := 43) (by decide +kernel) (by decide) (fun c9 => ?_) (fun c9 => ?_)
    · skip
      refine V.run hF [(.iconst 0, 1, .int 0)] (pc' := 44) (L' := [some (.ref (B 0)), some (.int v), some (.int w)]) (st' := [.int 0]) (by decide +kernel) rfl ?_
      exact V.retz hF (by decide +kernel) rfl ⟨1, 0, rfl, Or.inr ⟨tf_0 c1, rfl⟩, _, _, hM1, hk1⟩
    · skip
      exact absurd c9 (by decide)
  · skip
    refine V.run hF [(.iconst 0, 1, .int 0), (.goto 4, 3, .null)] (pc' := 15) (L' := [some (.ref (B 0)), some (.int v), some (.int w)]) (st' := [.int 0, .ref (B 0)]) (by decide +kernel) rfl ?_
    refine V.putf hG hF k_RX4_36 (by decide +kernel) hM.2.1 (fun C T N hc => by cases hc; exact ⟨rfl, .int, by decide +kernel, rfl, rfl⟩) (Nat.le_of_ble_eq_true rfl) ?_
    obtain ⟨h_3, gh3⟩ : ∃ z : Hp, z = hset h (B 0) (.inr (4, [.int 0, .int (uth u), .int (nI (gT σ)), .ref (B 1), .ref (B 2), .ref (B 3), .ref (B 4), .ref (B 5), .int (nI (gy σ)), .int (gme σ), .int (gde σ), .ref (B 6), .ref (B 7)])) := ⟨_, rfl⟩
    refine V.hp gh3 ?_
    have gk3 : ∀ q : Nat, q ≠ (B 0) → h_3 q = h q := fun q hq => by rw [gh3]; exact hset_ne hq
    have gs3 : h_3 (B 0) = some (.inr (4, [.int 0, .int (uth u), .int (nI (gT σ)), .ref (B 1), .ref (B 2), .ref (B 3), .ref (B 4), .ref (B 5), .int (nI (gy σ)), .int (gme σ), .int (gde σ), .ref (B 6), .ref (B 7)])) := by rw [gh3]; exact hset_eq
    have hM1 := hM.th gs3 (fun q hq => gk3 q hq)
    have hk1 : kpB h h_3 B := kpB.one (i := 0) (by omega) (fun q hq => gk3 q hq)
    obtain ⟨h1, eh1⟩ : ∃ z, z = h_3 := ⟨_, rfl⟩
    rw [← eh1] at hM1 hk1 ⊢
    refine V.run hF [(.aload_n 0, 1, .null)] (pc' := 19) (L' := [some (.ref (B 0)), some (.int v), some (.int w)]) (st' := [.ref (B 0)]) (by decide +kernel) rfl ?_
    refine V.getf hG hF k_RX4_36 (by decide +kernel) hM1.2.1 rfl ?_
    refine V.if_ne hF (off := 21) (tgt := 43) (by decide +kernel) (by decide) (fun c9 => ?_) (fun c9 => ?_)
    · exact absurd rfl c9
    · skip
      obtain ⟨t, l, ht, hl, rfl, rfl⟩ := (inL_iff hR.1 (fun t ht => (hR.mn ht).2.2)).mp (tf_1 c1)
      have e12 := (hR.mn ht).2.2
      have et : (nI t).toNatClampNeg = t := nI_clamp (by omega)
      have el : (nI l).toNatClampNeg = l := nI_clamp (by omega)
      obtain ⟨-, -, -, -, -, -, -, -, rW, -⟩ := hR.row ht hl
      obtain ⟨p, hp8, ep⟩ := inP_of rW
      have epc : (gW σ t l).toNatClampNeg = p := by rw [ep]; exact nI_clamp (by omega)
      refine V.run hF [(.aload_n 0, 1, .null), (.aload_n 0, 1, .null), (.iload_n 1, 1, .null), (.iload_n 2, 1, .null), (.iconst 3, 1, .int 3)] (pc' := 30) (L' := [some (.ref (B 0)), some (.int (nI t)), some (.int (nI l))]) (st' := [.int 3, .int (nI l), .int (nI t), .ref (B 0), .ref (B 0)]) (by decide +kernel) rfl ?_
      refine V.callV (As := [.int (nI t), .int (nI l), .int 3]) (st := [.ref (B 0)]) hG hF k_RX4_60 (by decide +kernel) (c_X4_ofW hG hM1 hR ht hl) hM1.2.1 rfl rfl ⟨by rw [hRm]; decide, by rw [hRm]; decide⟩ (Nat.le_of_ble_eq_true rfl) rfl (fun v h_4 gp4 => ?_) (fun E h9 hx => hx.elim)
      obtain ⟨rfl, he_gp4⟩ := gp4
      rw [he_gp4]
      show V G F _ _ _ 33 [some (.ref (B 0)), some (.int (nI t)), some (.int (nI l))] [.int (gW σ t l), .ref (B 0)] h1
      rw [ep]
      refine V.callV (As := [.int (nI p)]) (st := []) hG hF k_RX4_64 (by decide +kernel) (c_X4_is hG hM1 hR hp8) hM1.2.1 rfl rfl ⟨by rw [hRm]; decide, by rw [hRm]; decide⟩ (Nat.le_of_ble_eq_true rfl) rfl (fun v h_5 gp5 => ?_) (fun E h9 hx => hx.elim)
      obtain ⟨rfl, he_gp5⟩ := gp5
      rw [he_gp5]
      show V G F _ _ _ 36 [some (.ref (B 0)), some (.int (nI t)), some (.int (nI l))] [.int (gth σ p)] h1
      refine V.if_eq hF (off := 7) (tgt := 43) (by decide +kernel) (by decide) (fun c3 => ?_) (fun c3 => ?_)
      · skip
        refine V.run hF [(.iconst 0, 1, .int 0)] (pc' := 44) (L' := [some (.ref (B 0)), some (.int (nI t)), some (.int (nI l))]) (st' := [.int 0]) (by decide +kernel) rfl ?_
        exact V.retz hF (by decide +kernel) rfl ⟨0, 0, rfl, Or.inl ⟨tf_1 c1, rfl, by rw [et, el, epc, c3]⟩, _, _, hM1, hk1⟩
      · skip
        have e3 : gth σ p = 1 := ((hR.2.1 p hp8).2).resolve_left c3
        refine V.run hF [(.iconst 1, 1, .int 1), (.goto 4, 3, .null)] (pc' := 44) (L' := [some (.ref (B 0)), some (.int (nI t)), some (.int (nI l))]) (st' := [.int 1]) (by decide +kernel) rfl ?_
        exact V.retz hF (by decide +kernel) rfl ⟨0, 1, rfl, Or.inl ⟨tf_1 c1, rfl, by rw [et, el, epc, e3]⟩, _, _, hM1, hk1⟩
set_option maxHeartbeats 4000000 in
theorem c_X4_hasOn (hG : GOk G) (hM : MO h B σ x u md hs) (hR : RM σ u) (v w : Int32) : Ct G yX4_hasOn (.code yX4_hasOn cX4_hasOn 3 (some .int)) 3 66 0 0 [.ref (B 0), .int v, .int w] h (mq B σ u h (inT σ v ∧ inP w) (gbal σ v.toNatClampNeg w.toNatClampNeg)) pxN := by
  refine Ct.of (by decide +kernel) (Nat.le_of_ble_eq_true rfl) fun F hF hT hN hRm => ?_
  have h8 := hR.1
  refine V.run hF [(.aload_n 0, 1, .null), (.iconst 0, 1, .int 0)] (pc' := 2) (L' := [some (.ref (B 0)), some (.int v), some (.int w)]) (st' := [.int 0, .ref (B 0)]) (by decide +kernel) rfl ?_
  refine V.putf hG hF k_RX4_36 (by decide +kernel) hM.2.1 (fun C T N hc => by cases hc; exact ⟨rfl, .int, by decide +kernel, rfl, rfl⟩) (Nat.le_of_ble_eq_true rfl) ?_
  obtain ⟨h_1, gh1⟩ : ∃ z : Hp, z = hset h (B 0) (.inr (4, [.int 0, .int (uth u), .int (nI (gT σ)), .ref (B 1), .ref (B 2), .ref (B 3), .ref (B 4), .ref (B 5), .int (nI (gy σ)), .int (gme σ), .int (gde σ), .ref (B 6), .ref (B 7)])) := ⟨_, rfl⟩
  refine V.hp gh1 ?_
  have gk1 : ∀ q : Nat, q ≠ (B 0) → h_1 q = h q := fun q hq => by rw [gh1]; exact hset_ne hq
  have gs1 : h_1 (B 0) = some (.inr (4, [.int 0, .int (uth u), .int (nI (gT σ)), .ref (B 1), .ref (B 2), .ref (B 3), .ref (B 4), .ref (B 5), .int (nI (gy σ)), .int (gme σ), .int (gde σ), .ref (B 6), .ref (B 7)])) := by rw [gh1]; exact hset_eq
  have hM1 := hM.th gs1 (fun q hq => gk1 q hq)
  have hk1 : kpB h h_1 B := kpB.one (i := 0) (by omega) (fun q hq => gk1 q hq)
  obtain ⟨h1, eh1⟩ : ∃ z, z = h_1 := ⟨_, rfl⟩
  rw [← eh1] at hM1 hk1 ⊢
  refine V.run hF [(.aload_n 0, 1, .null), (.iload_n 1, 1, .null)] (pc' := 7) (L' := [some (.ref (B 0)), some (.int v), some (.int w)]) (st' := [.int v, .ref (B 0)]) (by decide +kernel) rfl ?_
  refine V.callV (As := [.int v]) (st := []) hG hF k_RX4_46 (by decide +kernel) (c_X4_isTablet hG hM1 hR.1 v) hM1.2.1 rfl rfl ⟨by rw [hRm]; decide, by rw [hRm]; decide⟩ (Nat.le_of_ble_eq_true rfl) rfl (fun v h_2 gp2 => ?_) (fun E h9 hx => hx.elim)
  obtain ⟨rfl, he_gp2⟩ := gp2
  rw [he_gp2]
  show V G F _ _ _ 10 [some (.ref (B 0)), some (.int v), some (.int w)] [.int (tf (inT σ v))] h1
  refine V.if_eq hF (off := 10) (tgt := 20) (by decide +kernel) (by decide) (fun c1 => ?_) (fun c1 => ?_)
  · skip
    refine V.run hF [(.aload_n 0, 1, .null), (.iconst 1, 1, .int 1)] (pc' := 22) (L' := [some (.ref (B 0)), some (.int v), some (.int w)]) (st' := [.int 1, .ref (B 0)]) (by decide +kernel) rfl ?_
    refine V.callV (As := [.int 1]) (st := []) hG hF k_RX4_86 (by decide +kernel) (c_X4_fail hG hM1 1) hM1.2.1 rfl rfl ⟨by rw [hRm]; decide, by rw [hRm]; decide⟩ (Nat.le_of_ble_eq_true rfl) rfl (fun v h2 hp => ?_) (fun E h9 hx => hx.elim)
    obtain ⟨rfl, hM2, hk2⟩ := hp
    show V G F _ _ _ 25 [some (.ref (B 0)), some (.int v), some (.int w)] [.int 0] h2
    exact V.reti hF (by decide +kernel) ⟨1, 0, rfl, Or.inr ⟨fun q => tf_0 c1 q.1, rfl⟩, _, _, hM2, hk1.tr hk2⟩
  · skip
    refine V.run hF [(.iload_n 2, 1, .null)] (pc' := 14) (L' := [some (.ref (B 0)), some (.int v), some (.int w)]) (st' := [.int w]) (by decide +kernel) rfl ?_
    refine V.callS (As := [.int w]) (st := []) hG hF k_RX4_90 (by decide +kernel) (c_X4_isPerson hG w) rfl ⟨by rw [hRm]; decide, by rw [hRm]; decide⟩ (Nat.le_of_ble_eq_true rfl) rfl (fun v h_4 gp4 => ?_) (fun E h9 hx => hx.elim)
    obtain ⟨rfl, he_gp4⟩ := gp4
    rw [he_gp4]
    show V G F _ _ _ 17 [some (.ref (B 0)), some (.int v), some (.int w)] [.int (tf (inP w))] h1
    refine V.if_ne hF (off := 9) (tgt := 26) (by decide +kernel) (by decide) (fun c2 => ?_) (fun c2 => ?_)
    · skip
      obtain ⟨t, ht, rfl⟩ := (inT_iff hR.1).mp (tf_1 c1)
      have et : (nI t).toNatClampNeg = t := nI_clamp (by omega)
      obtain ⟨ea, eb, ez, em, en, -⟩ := hR.2.2.2.1 t ht
      obtain ⟨p, hp8, rfl⟩ := inP_of (tf_1 c2)
      have ep : (nI p).toNatClampNeg = p := nI_clamp (by omega)
      refine V.run hF [(.aload_n 0, 1, .null)] (pc' := 27) (L' := [some (.ref (B 0)), some (.int (nI t)), some (.int (nI p))]) (st' := [.ref (B 0)]) (by decide +kernel) rfl ?_
      refine V.callV (As := []) (st := []) hG hF k_RX4_67 (by decide +kernel) (c_X4_clear hG hM1) hM1.2.1 rfl rfl ⟨by rw [hRm]; decide, by rw [hRm]; decide⟩ (Nat.le_of_ble_eq_true rfl) rfl (fun v' h2 hp => ?_) (fun E h9 hx => hx.elim)
      obtain ⟨rfl, hM2, hk2⟩ := hp
      show V G F _ _ _ 30 [some (.ref (B 0)), some (.int (nI t)), some (.int (nI p))] [] h2
      refine V.run hF [(.aload_n 0, 1, .null), (.iload_n 1, 1, .null)] (pc' := 32) (L' := [some (.ref (B 0)), some (.int (nI t)), some (.int (nI p))]) (st' := [.int (nI t), .ref (B 0)]) (by decide +kernel) rfl ?_
      refine V.callV (As := [.int (nI t)]) (st := []) hG hF k_RX4_70 (by decide +kernel) (c_X4_balance hG hM2 hR ht) hM2.2.1 rfl rfl ⟨by rw [hRm]; decide, by rw [hRm]; decide⟩ (Nat.le_of_ble_eq_true rfl) rfl (fun v' h3 hp => ?_) (fun E h9 hx => hx.elim)
      obtain ⟨rfl, g, hg, hM3, hk3⟩ := hp
      show V G F _ _ _ 35 [some (.ref (B 0)), some (.int (nI t)), some (.int (nI p))] [] h3
      refine V.run hF [(.aload_n 0, 1, .null)] (pc' := 36) (L' := [some (.ref (B 0)), some (.int (nI t)), some (.int (nI p))]) (st' := [.ref (B 0)]) (by decide +kernel) rfl ?_
      refine V.getf hG hF k_RX4_33 (by decide +kernel) hM3.2.1 rfl ?_
      refine V.run hF [(.iload_n 2, 1, .null)] (pc' := 40) (L' := [some (.ref (B 0)), some (.int (nI t)), some (.int (nI p))]) (st' := [.int (nI p), .ref (B 7)]) (by decide +kernel) rfl ?_
      refine V.ialdN (j := p) hG hF (by decide +kernel) hM3.2.2.2.2.2.2.2.2 (by omega) (by decide) ?_
      have eg : g p = gbal σ t p := by
        rw [hg p hp8, mxk, if_pos hp8, Int32.zero_add]
      exact V.reti hF (by decide +kernel) ⟨0, _, rfl, Or.inl ⟨⟨tf_1 c1, tf_1 c2⟩, rfl, by rw [et, ep, eg]⟩, _, _, hM3, hk1.tr (hk2.tr hk3)⟩
    · skip
      refine V.run hF [(.aload_n 0, 1, .null), (.iconst 1, 1, .int 1)] (pc' := 22) (L' := [some (.ref (B 0)), some (.int v), some (.int w)]) (st' := [.int 1, .ref (B 0)]) (by decide +kernel) rfl ?_
      refine V.callV (As := [.int 1]) (st := []) hG hF k_RX4_86 (by decide +kernel) (c_X4_fail hG hM1 1) hM1.2.1 rfl rfl ⟨by rw [hRm]; decide, by rw [hRm]; decide⟩ (Nat.le_of_ble_eq_true rfl) rfl (fun v h2 hp => ?_) (fun E h9 hx => hx.elim)
      obtain ⟨rfl, hM2, hk2⟩ := hp
      show V G F _ _ _ 25 [some (.ref (B 0)), some (.int v), some (.int w)] [.int 0] h2
      exact V.reti hF (by decide +kernel) ⟨1, 0, rfl, Or.inr ⟨fun q => tf_0 c2 q.2, rfl⟩, _, _, hM2, hk1.tr hk2⟩
set_option maxHeartbeats 4000000 in
theorem c_X4_owes (hG : GOk G) (hM : MO h B σ x u md hs) (hR : RM σ u) (v w : Int32) : Ct G yX4_owes (.code yX4_owes cX4_owes 3 (some .int)) 3 69 0 0 [.ref (B 0), .int v, .int w] h (mq B σ u h (inP v ∧ inP w) (gOw σ v w (gT σ))) pxN := by
  refine Ct.of (by decide +kernel) (Nat.le_of_ble_eq_true rfl) fun F hF hT hN hRm => ?_
  have h8 := hR.1
  refine V.run hF [(.aload_n 0, 1, .null), (.iconst 0, 1, .int 0)] (pc' := 2) (L' := [some (.ref (B 0)), some (.int v), some (.int w)]) (st' := [.int 0, .ref (B 0)]) (by decide +kernel) rfl ?_
  refine V.putf hG hF k_RX4_36 (by decide +kernel) hM.2.1 (fun C T N hc => by cases hc; exact ⟨rfl, .int, by decide +kernel, rfl, rfl⟩) (Nat.le_of_ble_eq_true rfl) ?_
  obtain ⟨h_1, gh1⟩ : ∃ z : Hp, z = hset h (B 0) (.inr (4, [.int 0, .int (uth u), .int (nI (gT σ)), .ref (B 1), .ref (B 2), .ref (B 3), .ref (B 4), .ref (B 5), .int (nI (gy σ)), .int (gme σ), .int (gde σ), .ref (B 6), .ref (B 7)])) := ⟨_, rfl⟩
  refine V.hp gh1 ?_
  have gk1 : ∀ q : Nat, q ≠ (B 0) → h_1 q = h q := fun q hq => by rw [gh1]; exact hset_ne hq
  have gs1 : h_1 (B 0) = some (.inr (4, [.int 0, .int (uth u), .int (nI (gT σ)), .ref (B 1), .ref (B 2), .ref (B 3), .ref (B 4), .ref (B 5), .int (nI (gy σ)), .int (gme σ), .int (gde σ), .ref (B 6), .ref (B 7)])) := by rw [gh1]; exact hset_eq
  have hM1 := hM.th gs1 (fun q hq => gk1 q hq)
  have hk1 : kpB h h_1 B := kpB.one (i := 0) (by omega) (fun q hq => gk1 q hq)
  obtain ⟨h1, eh1⟩ : ∃ z, z = h_1 := ⟨_, rfl⟩
  rw [← eh1] at hM1 hk1 ⊢
  refine V.run hF [(.iload_n 1, 1, .null)] (pc' := 6) (L' := [some (.ref (B 0)), some (.int v), some (.int w)]) (st' := [.int v]) (by decide +kernel) rfl ?_
  refine V.callS (As := [.int v]) (st := []) hG hF k_RX4_90 (by decide +kernel) (c_X4_isPerson hG v) rfl ⟨by rw [hRm]; decide, by rw [hRm]; decide⟩ (Nat.le_of_ble_eq_true rfl) rfl (fun v h_2 gp2 => ?_) (fun E h9 hx => hx.elim)
  obtain ⟨rfl, he_gp2⟩ := gp2
  rw [he_gp2]
  show V G F _ _ _ 9 [some (.ref (B 0)), some (.int v), some (.int w)] [.int (tf (inP v))] h1
  refine V.if_eq hF (off := 19) (tgt := 28) (by decide +kernel) (by decide) (fun c1 => ?_) (fun c1 => ?_)
  · skip
    refine V.run hF [(.aload_n 0, 1, .null), (.iconst 1, 1, .int 1)] (pc' := 30) (L' := [some (.ref (B 0)), some (.int v), some (.int w)]) (st' := [.int 1, .ref (B 0)]) (by decide +kernel) rfl ?_
    refine V.callV (As := [.int 1]) (st := []) hG hF k_RX4_86 (by decide +kernel) (c_X4_fail hG hM1 1) hM1.2.1 rfl rfl ⟨by rw [hRm]; decide, by rw [hRm]; decide⟩ (Nat.le_of_ble_eq_true rfl) rfl (fun v h2 hp => ?_) (fun E h9 hx => hx.elim)
    obtain ⟨rfl, hM2, hk2⟩ := hp
    show V G F _ _ _ 33 [some (.ref (B 0)), some (.int v), some (.int w)] [.int 0] h2
    exact V.reti hF (by decide +kernel) ⟨1, 0, rfl, Or.inr ⟨fun q => tf_0 c1 q.1, rfl⟩, _, _, hM2, hk1.tr hk2⟩
  · skip
    refine V.run hF [(.iload_n 2, 1, .null)] (pc' := 13) (L' := [some (.ref (B 0)), some (.int v), some (.int w)]) (st' := [.int w]) (by decide +kernel) rfl ?_
    refine V.callS (As := [.int w]) (st := []) hG hF k_RX4_90 (by decide +kernel) (c_X4_isPerson hG w) rfl ⟨by rw [hRm]; decide, by rw [hRm]; decide⟩ (Nat.le_of_ble_eq_true rfl) rfl (fun v h_4 gp4 => ?_) (fun E h9 hx => hx.elim)
    obtain ⟨rfl, he_gp4⟩ := gp4
    rw [he_gp4]
    show V G F _ _ _ 16 [some (.ref (B 0)), some (.int v), some (.int w)] [.int (tf (inP w))] h1
    refine V.if_eq hF (off := 12) (tgt := 28) (by decide +kernel) (by decide) (fun c2 => ?_) (fun c2 => ?_)
    · skip
      refine V.run hF [(.aload_n 0, 1, .null), (.iconst 1, 1, .int 1)] (pc' := 30) (L' := [some (.ref (B 0)), some (.int v), some (.int w)]) (st' := [.int 1, .ref (B 0)]) (by decide +kernel) rfl ?_
      refine V.callV (As := [.int 1]) (st := []) hG hF k_RX4_86 (by decide +kernel) (c_X4_fail hG hM1 1) hM1.2.1 rfl rfl ⟨by rw [hRm]; decide, by rw [hRm]; decide⟩ (Nat.le_of_ble_eq_true rfl) rfl (fun v h2 hp => ?_) (fun E h9 hx => hx.elim)
      obtain ⟨rfl, hM2, hk2⟩ := hp
      show V G F _ _ _ 33 [some (.ref (B 0)), some (.int v), some (.int w)] [.int 0] h2
      exact V.reti hF (by decide +kernel) ⟨1, 0, rfl, Or.inr ⟨fun q => tf_0 c2 q.2, rfl⟩, _, _, hM2, hk1.tr hk2⟩
    · skip
      refine V.run hF [(.aload_n 0, 1, .null), (.iload_n 1, 1, .null), (.iload_n 2, 1, .null)] (pc' := 22) (L' := [some (.ref (B 0)), some (.int v), some (.int w)]) (st' := [.int w, .int v, .ref (B 0)]) (by decide +kernel) rfl ?_
      refine V.callV (As := [.int v, .int w]) (st := []) hG hF k_RX4_129 (by decide +kernel) (c_X4_owing hG hM1 hR (p := v) (q := w)) hM1.2.1 rfl rfl ⟨by rw [hRm]; decide, by rw [hRm]; decide⟩ (Nat.le_of_ble_eq_true rfl) rfl (fun v h_6 gp6 => ?_) (fun E h9 hx => hx.elim)
      obtain ⟨rfl, he_gp6⟩ := gp6
      rw [he_gp6]
      show V G F _ _ _ 25 [some (.ref (B 0)), some (.int v), some (.int w)] [.int (gOw σ v w (gT σ))] h1
      refine V.run hF [(.goto 8, 3, .null)] (pc' := 33) (L' := [some (.ref (B 0)), some (.int v), some (.int w)]) (st' := [.int (gOw σ v w (gT σ))]) (by decide +kernel) rfl ?_
      exact V.reti hF (by decide +kernel) ⟨0, _, rfl, Or.inl ⟨⟨tf_1 c1, tf_1 c2⟩, rfl, rfl⟩, _, _, hM1, hk1⟩
set_option maxHeartbeats 4000000 in
theorem c_X4_meanAmount (hG : GOk G) (hM : MO h B σ x u md hs) (hR : RM σ u) : Ct G yX4_meanAmount (.code yX4_meanAmount cX4_meanAmount 1 (some .double)) 3 67 0 0 [.ref (B 0)] h (fun v h' => v = some (.double (mn (gLn σ (gT σ)) (gTo σ (gT σ)))) ∧ ∃ md' hs', MO h' B σ 0 u md' hs' ∧ kpB h h' B) pxN := by
  refine Ct.of (by decide +kernel) (Nat.le_of_ble_eq_true rfl) fun F hF hT hN hRm => ?_
  have h8 := hR.1
  refine V.run hF [(.aload_n 0, 1, .null), (.iconst 0, 1, .int 0)] (pc' := 2) (L' := [some (.ref (B 0))]) (st' := [.int 0, .ref (B 0)]) (by decide +kernel) rfl ?_
  refine V.putf hG hF k_RX4_36 (by decide +kernel) hM.2.1 (fun C T N hc => by cases hc; exact ⟨rfl, .int, by decide +kernel, rfl, rfl⟩) (Nat.le_of_ble_eq_true rfl) ?_
  obtain ⟨h_1, gh1⟩ : ∃ z : Hp, z = hset h (B 0) (.inr (4, [.int 0, .int (uth u), .int (nI (gT σ)), .ref (B 1), .ref (B 2), .ref (B 3), .ref (B 4), .ref (B 5), .int (nI (gy σ)), .int (gme σ), .int (gde σ), .ref (B 6), .ref (B 7)])) := ⟨_, rfl⟩
  refine V.hp gh1 ?_
  have gk1 : ∀ q : Nat, q ≠ (B 0) → h_1 q = h q := fun q hq => by rw [gh1]; exact hset_ne hq
  have gs1 : h_1 (B 0) = some (.inr (4, [.int 0, .int (uth u), .int (nI (gT σ)), .ref (B 1), .ref (B 2), .ref (B 3), .ref (B 4), .ref (B 5), .int (nI (gy σ)), .int (gme σ), .int (gde σ), .ref (B 6), .ref (B 7)])) := by rw [gh1]; exact hset_eq
  have hM1 := hM.th gs1 (fun q hq => gk1 q hq)
  have hk1 : kpB h h_1 B := kpB.one (i := 0) (by omega) (fun q hq => gk1 q hq)
  obtain ⟨h1, eh1⟩ : ∃ z, z = h_1 := ⟨_, rfl⟩
  rw [← eh1] at hM1 hk1 ⊢
  refine V.run hF [(.aload_n 0, 1, .null)] (pc' := 6) (L' := [some (.ref (B 0))]) (st' := [.ref (B 0)]) (by decide +kernel) rfl ?_
  refine V.callV (As := []) (st := []) hG hF k_RX4_119 (by decide +kernel) (c_X4_all hG hM1 hR) hM1.2.1 rfl rfl ⟨by rw [hRm]; decide, by rw [hRm]; decide⟩ (Nat.le_of_ble_eq_true rfl) rfl (fun v h_2 gp2 => ?_) (fun E h9 hx => hx.elim)
  obtain ⟨rfl, he_gp2⟩ := gp2
  rw [he_gp2]
  show V G F _ _ _ 9 [some (.ref (B 0))] [.int (gLn σ (gT σ))] h1
  refine V.if_ne hF (off := 7) (tgt := 16) (by decide +kernel) (by decide) (fun c1 => ?_) (fun c1 => ?_)
  · skip
    refine V.run hF [(.aload_n 0, 1, .null)] (pc' := 17) (L' := [some (.ref (B 0))]) (st' := [.ref (B 0)]) (by decide +kernel) rfl ?_
    refine V.callV (As := []) (st := []) hG hF k_RX4_132 (by decide +kernel) (c_X4_sum hG hM1 hR) hM1.2.1 rfl rfl ⟨by rw [hRm]; decide, by rw [hRm]; decide⟩ (Nat.le_of_ble_eq_true rfl) rfl (fun v h_3 gp3 => ?_) (fun E h9 hx => hx.elim)
    obtain ⟨rfl, he_gp3⟩ := gp3
    rw [he_gp3]
    show V G F _ _ _ 20 [some (.ref (B 0))] [.int (gTo σ (gT σ))] h1
    refine V.run hF [(.i2d, 1, .null), (.aload_n 0, 1, .null)] (pc' := 22) (L' := [some (.ref (B 0))]) (st' := [.ref (B 0), .double (FP.i2d (gTo σ (gT σ)))]) (by decide +kernel) rfl ?_
    refine V.callV (As := []) (st := [.double (FP.i2d (gTo σ (gT σ)))]) hG hF k_RX4_119 (by decide +kernel) (c_X4_all hG hM1 hR) hM1.2.1 rfl rfl ⟨by rw [hRm]; decide, by rw [hRm]; decide⟩ (Nat.le_of_ble_eq_true rfl) rfl (fun v h_4 gp4 => ?_) (fun E h9 hx => hx.elim)
    obtain ⟨rfl, he_gp4⟩ := gp4
    rw [he_gp4]
    show V G F _ _ _ 25 [some (.ref (B 0))] [.int (gLn σ (gT σ)), .double (FP.i2d (gTo σ (gT σ)))] h1
    refine V.run hF [(.i2d, 1, .null)] (pc' := 26) (L' := [some (.ref (B 0))]) (st' := [.double (FP.i2d (gLn σ (gT σ))), .double (FP.i2d (gTo σ (gT σ)))]) (by decide +kernel) rfl ?_
    refine V.ddiv hF (by decide +kernel) (dv_n64 _ _ c1) ?_
    exact V.retd hF (by decide +kernel) ⟨by rw [mn, if_neg c1], _, _, hM1, hk1⟩
  · skip
    refine V.dconst0 hF (by decide +kernel) ?_
    refine V.run hF [(.goto 14, 3, .null)] (pc' := 27) (L' := [some (.ref (B 0))]) (st' := [.double 0]) (by decide +kernel) rfl ?_
    exact V.retd hF (by decide +kernel) ⟨by rw [mn, if_pos c1], _, _, hM1, hk1⟩
end Ms