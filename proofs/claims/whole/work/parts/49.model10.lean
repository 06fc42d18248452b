/-! ===== TallyWaxModel: turn, carry ===== -/
theorem xor_and1 (a b : Int32) : (a ^^^ b) &&& 1 = (a &&& 1) ^^^ (b &&& 1) := by
  apply Int32.toBitVec_inj.mp
  rw [Int32.toBitVec_and, Int32.toBitVec_xor, Int32.toBitVec_xor, Int32.toBitVec_and, Int32.toBitVec_and]
  ext i hi
  simp only [BitVec.getElem_and, BitVec.getElem_xor]
  generalize a.toBitVec[i] = x
  generalize b.toBitVec[i] = y
  generalize (1 : Int32).toBitVec[i] = z
  revert x y z
  decide
theorem bit_pq : ∀ p q : Fin 8, ((1 <<< (nI p.val &&& 31)) >>> (nI q.val &&& 31) : Int32) &&& 1 = if q = p then 1 else 0 := by decide +kernel
theorem bit_tn {th : Int32} {p q : Nat} (hp : p < 8) (hq : q < 8) : ((th ^^^ (1 <<< (nI p &&& 31))) >>> (nI q &&& 31)) &&& 1 = ((th >>> (nI q &&& 31)) &&& 1) ^^^ (if q = p then 1 else 0) := by
  rw [Int32.shiftRight_xor, xor_and1]
  have := bit_pq ⟨p, hp⟩ ⟨q, hq⟩
  simp only [Fin.mk.injEq] at this
  rw [this]
theorem ng_x {y : Int32} (h : b01 y) : y ^^^ 1 = ng y := by
  rcases h with rfl | rfl <;> decide
section Mx
variable {G : Gt} {h h' : Hp} {B : Nat → Nat} {σ : Sg} {x : Int32} {u : Mu} {md hs : Nat → Int32}
theorem RM.tn (hR : RM σ u) {p : Nat} (hp : p < 8) : RM (sTh σ (upd (gth σ) p (ng (gth σ p)))) (uth u ^^^ (1 <<< (nI p &&& 31)), u.2) := by
  refine ⟨hR.1, fun q hq => ?_, hR.2.2.1, hR.2.2.2.1, hR.2.2.2.2⟩
  obtain ⟨e1, e2⟩ := hR.2.1 q hq
  show ((uth u ^^^ (1 <<< (nI p &&& 31))) >>> (nI q &&& 31)) &&& 1 = upd (gth σ) p (ng (gth σ p)) q ∧ b01 (upd (gth σ) p (ng (gth σ p)) q)
  rw [bit_tn hp hq, e1]
  by_cases z : q = p
  · rw [if_pos z]
    rw [z] at e2 ⊢
    rw [upd_s]
    exact ⟨ng_x e2, ng01 _⟩
  · rw [if_neg z, upd_n z]
    exact ⟨Int32.xor_zero, e2⟩
theorem RM.cy (hR : RM σ u) {t : Nat} (ht : t < gT σ) {c : Int32} (hc : b01 c) : RM (sTab σ t (gha σ t) c (gn σ t) (gDD σ t) (gC σ t) (gM σ t) (gW σ t)) (uth u, uha u, upd (ubl u) t c, umn u, uli u, uhe u) := by
  refine ⟨hR.1, hR.2.1, hR.2.2.1, fun t' ht' => ?_, fun t' h1 h2 => ⟨(hR.2.2.2.2 t' h1 h2).1, by
    have h1 : gT σ ≤ t' := h1
    show upd (ubl u) t c t' = 0
    rw [upd_n (by omega)]
    exact (hR.2.2.2.2 t' h1 h2).2⟩⟩
  have q := hR.2.2.2.1 t' ht'
  unfold sTab
  simp only [gha, gce, gn, gDD, gC, gM, gW, gT, uha, ubl, umn, uli, vu_i] at q ⊢
  by_cases e : t' = t
  · rw [e] at q ⊢
    rw [vu_s, upd_s]
    exact ⟨q.1, rfl, hc, q.2.2.2⟩
  · rw [vu_n e, upd_n e]
    exact q
theorem RM.n0 (hR : RM σ u) {t : Nat} (ht : t < gT σ) : RM (sTab σ t (gha σ t) (gce σ t) 0 (gDD σ t) (gC σ t) (gM σ t) (gW σ t)) (uth u, uha u, ubl u, upd (umn u) t 0, uli u, uhe u) := by
  refine ⟨hR.1, hR.2.1, hR.2.2.1, fun t' ht' => ?_, fun t' h1 h2 => ⟨by
    have h1 : gT σ ≤ t' := h1
    show upd (umn u) t 0 t' = 0
    rw [upd_n (by omega)]
    exact (hR.2.2.2.2 t' h1 h2).1, (hR.2.2.2.2 t' h1 h2).2⟩⟩
  have q := hR.2.2.2.1 t' ht'
  unfold sTab
  simp only [gha, gce, gn, gDD, gC, gM, gW, gT, uha, ubl, umn, uli, vu_i] at q ⊢
  by_cases e : t' = t
  · rw [e] at q ⊢
    rw [vu_s, upd_s]
    exact ⟨q.1, q.2.1, q.2.2.1, rfl, Nat.zero_le _, fun l hl => absurd hl (Nat.not_lt_zero l)⟩
  · rw [vu_n e, upd_n e]
    exact q
set_option maxHeartbeats 4000000 in
theorem c_X4_turn (hG : GOk G) (hM : MO h B σ x u md hs) (hR : RM σ u) (v : Int32) : Ct G yX4_turn (.code yX4_turn cX4_turn 2 (some .boolean)) 2 42 0 0 [.ref (B 0), .int v] h (fun v' h' => (¬ inP v ∧ anyI v' ∧ MS h h' B σ 1) ∨ (inP v ∧ v' = some (.int (ng (gth σ v.toNatClampNeg))) ∧ MS h h' B (sTh σ (upd (gth σ) v.toNatClampNeg (ng (gth σ v.toNatClampNeg)))) 0)) pxN := by
  refine Ct.of (by decide +kernel) (Nat.le_of_ble_eq_true rfl) fun F hF hT hN hRm => ?_
  have h8 := hR.1
  refine V.run hF [(.aload_n 0, 1, .null), (.iload_n 1, 1, .null)] (pc' := 2) (L' := [some (.ref (B 0)), some (.int v)]) (st' := [.int v, .ref (B 0)]) (by decide +kernel) rfl ?_
  refine V.callS (As := [.int v]) (st := [.ref (B 0)]) hG hF k_RX4_90 (by decide +kernel) (c_X4_isPerson hG v) rfl ⟨by rw [hRm]; decide, by rw [hRm]; decide⟩ (Nat.le_of_ble_eq_true rfl) rfl (fun v h_1 gp1 => ?_) (fun E h9 hx => hx.elim)
  obtain ⟨rfl, he_gp1⟩ := gp1
  rw [he_gp1]
  show V G F _ _ _ 5 [some (.ref (B 0)), some (.int v)] [.int (tf (inP v)), .ref (B 0)] h
  refine V.if_eq hF (off := 7) (tgt := 12) (by decide +kernel) (by decide) (fun c1 => ?_) (fun c1 => ?_)
  · skip
    refine V.run hF [(.iconst 1, 1, .int 1)] (pc' := 13) (L' := [some (.ref (B 0)), some (.int v)]) (st' := [.int 1, .ref (B 0)]) (by decide +kernel) rfl ?_
    refine V.putf hG hF k_RX4_36 (by decide +kernel) hM.2.1 (fun C T N hc => by cases hc; exact ⟨rfl, .int, by decide +kernel, rfl, rfl⟩) (Nat.le_of_ble_eq_true rfl) ?_
    obtain ⟨h_2, gh2⟩ : ∃ z : Hp, z = hset h (B 0) (.inr (4, [.int 1, .int (uth u), .int (nI (gT σ)), .ref (B 1), .ref (B 2), .ref (B 3), .ref (B 4), .ref (B 5), .int (nI (gy σ)), .int (gme σ), .int (gde σ), .ref (B 6), .ref (B 7)])) := ⟨_, rfl⟩
    refine V.hp gh2 ?_
    have gk2 : ∀ q : Nat, q ≠ (B 0) → h_2 q = h q := fun q hq => by rw [gh2]; exact hset_ne hq
    have gs2 : h_2 (B 0) = some (.inr (4, [.int 1, .int (uth u), .int (nI (gT σ)), .ref (B 1), .ref (B 2), .ref (B 3), .ref (B 4), .ref (B 5), .int (nI (gy σ)), .int (gme σ), .int (gde σ), .ref (B 6), .ref (B 7)])) := by rw [gh2]; exact hset_eq
    have hM1 := hM.th gs2 (fun q hq => gk2 q hq)
    have hk1 : kpB h h_2 B := kpB.one (i := 0) (by omega) (fun q hq => gk2 q hq)
    obtain ⟨h1, eh1⟩ : ∃ z, z = h_2 := ⟨_, rfl⟩
    rw [← eh1] at hM1 hk1 ⊢
    refine V.run hF [(.aload_n 0, 1, .null)] (pc' := 17) (L' := [some (.ref (B 0)), some (.int v)]) (st' := [.ref (B 0)]) (by decide +kernel) rfl ?_
    refine V.getf hG hF k_RX4_36 (by decide +kernel) hM1.2.1 rfl ?_
    refine V.if_le hF (off := 5) (tgt := 25) (by decide +kernel) (by decide) (fun c9 => ?_) (fun c9 => ?_)
    · exact absurd c9 (by decide)
    · skip
      refine V.run hF [(.iconst 0, 1, .int 0)] (pc' := 24) (L' := [some (.ref (B 0)), some (.int v)]) (st' := [.int 0]) (by decide +kernel) rfl ?_
      exact V.retz hF (by decide +kernel) rfl (Or.inl ⟨tf_0 c1, ⟨_, rfl⟩, _, _, _, hR, hM1, hk1⟩)
  · skip
    refine V.run hF [(.iconst 0, 1, .int 0), (.goto 4, 3, .null)] (pc' := 13) (L' := [some (.ref (B 0)), some (.int v)]) (st' := [.int 0, .ref (B 0)]) (by decide +kernel) rfl ?_
    refine V.putf hG hF k_RX4_36 (by decide +kernel) hM.2.1 (fun C T N hc => by cases hc; exact ⟨rfl, .int, by decide +kernel, rfl, rfl⟩) (Nat.le_of_ble_eq_true rfl) ?_
    obtain ⟨h_3, gh3⟩ : ∃ z : Hp, z = hset h (B 0) (.inr (4, [.int 0, .int (uth u), .int (nI (gT σ)), .ref (B 1), .ref (B 2), .ref (B 3), .ref (B 4), .ref (B 5), .int (nI (gy σ)), .int (gme σ), .int (gde σ), .ref (B 6), .ref (B 7)])) := ⟨_, rfl⟩
    refine V.hp gh3 ?_
    have gk3 : ∀ q : Nat, q ≠ (B 0) → h_3 q = h q := fun q hq => by rw [gh3]; exact hset_ne hq
    have gs3 : h_3 (B 0) = some (.inr (4, [.int 0, .int (uth u), .int (nI (gT σ)), .ref (B 1), .ref (B 2), .ref (B 3), .ref (B 4), .ref (B 5), .int (nI (gy σ)), .int (gme σ), .int (gde σ), .ref (B 6), .ref (B 7)])) := by rw [gh3]; exact hset_eq
    have hM1 := hM.th gs3 (fun q hq => gk3 q hq)
    have hk1 : kpB h h_3 B := kpB.one (i := 0) (by omega) (fun q hq => gk3 q hq)
    obtain ⟨h1, eh1⟩ : ∃ z, z = h_3 := ⟨_, rfl⟩
    rw [← eh1] at hM1 hk1 ⊢
    refine V.run hF [(.aload_n 0, 1, .null)] (pc' := 17) (L' := [some (.ref (B 0)), some (.int v)]) (st' := [.ref (B 0)]) (by decide +kernel) rfl ?_
    refine V.getf hG hF k_RX4_36 (by decide +kernel) hM1.2.1 rfl ?_
    refine V.if_le hF (off := 5) (tgt := 25) (by decide +kernel) (by decide) (fun c9 => ?_) (fun c9 => ?_)
    rotate_left
    · exact absurd (by decide) c9
    obtain ⟨p, hp8, rfl⟩ := inP_of (tf_1 c1)
    have ep : (nI p).toNatClampNeg = p := nI_clamp (by omega)
    refine V.run hF [(.aload_n 0, 1, .null), (.dup, 1, .null)] (pc' := 27) (L' := [some (.ref (B 0)), some (.int (nI p))]) (st' := [.ref (B 0), .ref (B 0)]) (by decide +kernel) rfl ?_
    refine V.getf hG hF k_RX4_7 (by decide +kernel) hM1.2.1 rfl ?_
    refine V.run hF [(.iconst 1, 1, .int 1), (.iload_n 1, 1, .null), (.ishl, 1, .null), (.ixor, 1, .null)] (pc' := 34) (L' := [some (.ref (B 0)), some (.int (nI p))]) (st' := [.int (uth u ^^^ (1 <<< ((nI p) &&& 31))), .ref (B 0)]) (by decide +kernel) rfl ?_
    refine V.putf hG hF k_RX4_7 (by decide +kernel) hM1.2.1 (fun C T N hc => by cases hc; exact ⟨rfl, .int, by decide +kernel, rfl, rfl⟩) (Nat.le_of_ble_eq_true rfl) ?_
    obtain ⟨h_4, gh4⟩ : ∃ z : Hp, z = hset h1 (B 0) (.inr (4, [.int 0, .int (uth u ^^^ (1 <<< ((nI p) &&& 31))), .int (nI (gT σ)), .ref (B 1), .ref (B 2), .ref (B 3), .ref (B 4), .ref (B 5), .int (nI (gy σ)), .int (gme σ), .int (gde σ), .ref (B 6), .ref (B 7)])) := ⟨_, rfl⟩
    refine V.hp gh4 ?_
    have gk4 : ∀ q : Nat, q ≠ (B 0) → h_4 q = h1 q := fun q hq => by rw [gh4]; exact hset_ne hq
    have gs4 : h_4 (B 0) = some (.inr (4, [.int 0, .int (uth u ^^^ (1 <<< ((nI p) &&& 31))), .int (nI (gT σ)), .ref (B 1), .ref (B 2), .ref (B 3), .ref (B 4), .ref (B 5), .int (nI (gy σ)), .int (gme σ), .int (gde σ), .ref (B 6), .ref (B 7)])) := by rw [gh4]; exact hset_eq
    have hM2 := hM1.c0 (σ' := sTh σ (upd (gth σ) p (ng (gth σ p)))) gs4 (fun q hq => gk4 q hq)
    have hR2 := hR.tn hp8
    refine V.run hF [(.aload_n 0, 1, .null), (.iload_n 1, 1, .null)] (pc' := 39) (L' := [some (.ref (B 0)), some (.int (nI p))]) (st' := [.int (nI p), .ref (B 0)]) (by decide +kernel) rfl ?_
    refine V.callV (As := [.int (nI p)]) (st := []) hG hF k_RX4_64 (by decide +kernel) (c_X4_is hG hM2 hR2 hp8) gs4 rfl rfl ⟨by rw [hRm]; decide, by rw [hRm]; decide⟩ (Nat.le_of_ble_eq_true rfl) rfl (fun v h_5 gp5 => ?_) (fun E h9 hx => hx.elim)
    obtain ⟨rfl, he_gp5⟩ := gp5
    rw [he_gp5]
    show V G F _ _ _ 42 [some (.ref (B 0)), some (.int (nI p))] [.int (upd (gth σ) p (ng (gth σ p)) p)] h_4
    rw [upd_s]
    exact V.retz hF (by decide +kernel) (nz (ng01 _)) (Or.inr ⟨tf_1 c1, by rw [ep], by rw [ep]; exact ⟨_, _, _, hR2, hM2, hk1.tr (kpB.one (i := 0) (by omega) (fun q hq => gk4 q hq))⟩⟩)
set_option maxHeartbeats 4000000 in
theorem c_X4_carry (hG : GOk G) (hM : MO h B σ x u md hs) (hR : RM σ u) (v : Int32) : Ct G yX4_carry (.code yX4_carry cX4_carry 2 (some .boolean)) 2 43 0 0 [.ref (B 0), .int v] h (fun v' h' => (¬ inT σ v ∧ anyI v' ∧ MS h h' B σ 1) ∨ (inT σ v ∧ ∃ t, t < gT σ ∧ v = nI t ∧ v' = some (.int (ng (gce σ t))) ∧ MS h h' B (sTab σ t (gha σ t) (ng (gce σ t)) (gn σ t) (gDD σ t) (gC σ t) (gM σ t) (gW σ t)) 0)) pxN := by
  refine Ct.of (by decide +kernel) (Nat.le_of_ble_eq_true rfl) fun F hF hT hN hRm => ?_
  have h8 := hR.1
  refine V.run hF [(.aload_n 0, 1, .null), (.aload_n 0, 1, .null), (.iload_n 1, 1, .null)] (pc' := 3) (L' := [some (.ref (B 0)), some (.int v)]) (st' := [.int v, .ref (B 0), .ref (B 0)]) (by decide +kernel) rfl ?_
  refine V.callV (As := [.int v]) (st := [.ref (B 0)]) hG hF k_RX4_46 (by decide +kernel) (c_X4_isTablet hG hM hR.1 v) hM.2.1 rfl rfl ⟨by rw [hRm]; decide, by rw [hRm]; decide⟩ (Nat.le_of_ble_eq_true rfl) rfl (fun v h_1 gp1 => ?_) (fun E h9 hx => hx.elim)
  obtain ⟨rfl, he_gp1⟩ := gp1
  rw [he_gp1]
  show V G F _ _ _ 6 [some (.ref (B 0)), some (.int v)] [.int (tf (inT σ v)), .ref (B 0)] h
  refine V.if_eq hF (off := 7) (tgt := 13) (by decide +kernel) (by decide) (fun c1 => ?_) (fun c1 => ?_)
  · skip
    refine V.run hF [(.iconst 1, 1, .int 1)] (pc' := 14) (L' := [some (.ref (B 0)), some (.int v)]) (st' := [.int 1, .ref (B 0)]) (by decide +kernel) rfl ?_
    refine V.putf hG hF k_RX4_36 (by decide +kernel) hM.2.1 (fun C T N hc => by cases hc; exact ⟨rfl, .int, by decide +kernel, rfl, rfl⟩) (Nat.le_of_ble_eq_true rfl) ?_
    obtain ⟨h_2, gh2⟩ : ∃ z : Hp, z = hset h (B 0) (.inr (4, [.int 1, .int (uth u), .int (nI (gT σ)), .ref (B 1), .ref (B 2), .ref (B 3), .ref (B 4), .ref (B 5), .int (nI (gy σ)), .int (gme σ), .int (gde σ), .ref (B 6), .ref (B 7)])) := ⟨_, rfl⟩
    refine V.hp gh2 ?_
    have gk2 : ∀ q : Nat, q ≠ (B 0) → h_2 q = h q := fun q hq => by rw [gh2]; exact hset_ne hq
    have gs2 : h_2 (B 0) = some (.inr (4, [.int 1, .int (uth u), .int (nI (gT σ)), .ref (B 1), .ref (B 2), .ref (B 3), .ref (B 4), .ref (B 5), .int (nI (gy σ)), .int (gme σ), .int (gde σ), .ref (B 6), .ref (B 7)])) := by rw [gh2]; exact hset_eq
    have hM1 := hM.th gs2 (fun q hq => gk2 q hq)
    have hk1 : kpB h h_2 B := kpB.one (i := 0) (by omega) (fun q hq => gk2 q hq)
    obtain ⟨h1, eh1⟩ : ∃ z, z = h_2 := ⟨_, rfl⟩
    rw [← eh1] at hM1 hk1 ⊢
    refine V.run hF [(.aload_n 0, 1, .null)] (pc' := 18) (L' := [some (.ref (B 0)), some (.int v)]) (st' := [.ref (B 0)]) (by decide +kernel) rfl ?_
    refine V.getf hG hF k_RX4_36 (by decide +kernel) hM1.2.1 rfl ?_
    refine V.if_le hF (off := 5) (tgt := 26) (by decide +kernel) (by decide) (fun c9 => ?_) (fun c9 => ?_)
    · exact absurd c9 (by decide)
    · skip
      refine V.run hF [(.iconst 0, 1, .int 0)] (pc' := 25) (L' := [some (.ref (B 0)), some (.int v)]) (st' := [.int 0]) (by decide +kernel) rfl ?_
      exact V.retz hF (by decide +kernel) rfl (Or.inl ⟨tf_0 c1, ⟨_, rfl⟩, _, _, _, hR, hM1, hk1⟩)
  · skip
    refine V.run hF [(.iconst 0, 1, .int 0), (.goto 4, 3, .null)] (pc' := 14) (L' := [some (.ref (B 0)), some (.int v)]) (st' := [.int 0, .ref (B 0)]) (by decide +kernel) rfl ?_
    refine V.putf hG hF k_RX4_36 (by decide +kernel) hM.2.1 (fun C T N hc => by cases hc; exact ⟨rfl, .int, by decide +kernel, rfl, rfl⟩) (Nat.le_of_ble_eq_true rfl) ?_
    obtain ⟨h_3, gh3⟩ : ∃ z : Hp, z = hset h (B 0) (.inr (4, [.int 0, .int (uth u), .int (nI (gT σ)), .ref (B 1), .ref (B 2), .ref (B 3), .ref (B 4), .ref (B 5), .int (nI (gy σ)), .int (gme σ), .int (gde σ), .ref (B 6), .ref (B 7)])) := ⟨_, rfl⟩
    refine V.hp gh3 ?_
    have gk3 : ∀ q : Nat, q ≠ (B 0) → h_3 q = h q := fun q hq => by rw [gh3]; exact hset_ne hq
    have gs3 : h_3 (B 0) = some (.inr (4, [.int 0, .int (uth u), .int (nI (gT σ)), .ref (B 1), .ref (B 2), .ref (B 3), .ref (B 4), .ref (B 5), .int (nI (gy σ)), .int (gme σ), .int (gde σ), .ref (B 6), .ref (B 7)])) := by rw [gh3]; exact hset_eq
    have hM1 := hM.th gs3 (fun q hq => gk3 q hq)
    have hk1 : kpB h h_3 B := kpB.one (i := 0) (by omega) (fun q hq => gk3 q hq)
    obtain ⟨h1, eh1⟩ : ∃ z, z = h_3 := ⟨_, rfl⟩
    rw [← eh1] at hM1 hk1 ⊢
    refine V.run hF [(.aload_n 0, 1, .null)] (pc' := 18) (L' := [some (.ref (B 0)), some (.int v)]) (st' := [.ref (B 0)]) (by decide +kernel) rfl ?_
    refine V.getf hG hF k_RX4_36 (by decide +kernel) hM1.2.1 rfl ?_
    refine V.if_le hF (off := 5) (tgt := 26) (by decide +kernel) (by decide) (fun c9 => ?_) (fun c9 => ?_)
    rotate_left
    · exact absurd (by decide) c9
    obtain ⟨t, ht, rfl⟩ := (inT_iff hR.1).mp (tf_1 c1)
    obtain ⟨ea, eb, ez, em, en, -⟩ := hR.2.2.2.1 t ht
    have n02 : B 0 ≠ B 2 := hM.1.ne (by omega) (by omega) (by omega)
    refine V.run hF [(.aload_n 0, 1, .null)] (pc' := 27) (L' := [some (.ref (B 0)), some (.int (nI t))]) (st' := [.ref (B 0)]) (by decide +kernel) rfl ?_
    refine V.getf hG hF k_RX4_17 (by decide +kernel) hM1.2.1 rfl ?_
    refine V.run hF [(.iload_n 1, 1, .null), (.aload_n 0, 1, .null)] (pc' := 32) (L' := [some (.ref (B 0)), some (.int (nI t))]) (st' := [.ref (B 0), .int (nI t), .ref (B 2)]) (by decide +kernel) rfl ?_
    refine V.getf hG hF k_RX4_17 (by decide +kernel) hM1.2.1 rfl ?_
    refine V.run hF [(.iload_n 1, 1, .null)] (pc' := 36) (L' := [some (.ref (B 0)), some (.int (nI t))]) (st' := [.int (nI t), .ref (B 2), .int (nI t), .ref (B 2)]) (by decide +kernel) rfl ?_
    refine V.zaldN (j := t) hG hF (by decide +kernel) hM1.2.2.2.1 (by omega) (by decide) ?_
    rw [eb]
    refine V.if_ne hF (off := 7) (tgt := 44) (by decide +kernel) (by decide) (fun c3 => ?_) (fun c3 => ?_)
    · have e : ng (gce σ t) = 0 := if_neg c3
      refine V.run hF [(.iconst 0, 1, .int 0)] (pc' := 45) (L' := [some (.ref (B 0)), some (.int (nI t))]) (st' := [.int 0, .int (nI t), .ref (B 2)]) (by decide +kernel) rfl ?_
      refine V.zastN (j := t) hG hF (by decide +kernel) hM1.2.2.2.1 (by omega) (by decide) (nz (Or.inl rfl)) ?_
      obtain ⟨h_4, gh4⟩ : ∃ z : Hp, z = hset h1 (B 2) (.inl (1, 8, .inl (upd (ubl u) t 0))) := ⟨_, rfl⟩
      refine V.hp gh4 ?_
      have gk4 : ∀ q : Nat, q ≠ (B 2) → h_4 q = h1 q := fun q hq => by rw [gh4]; exact hset_ne hq
      have gs4 : h_4 (B 2) = some (.inl (1, 8, .inl (upd (ubl u) t 0))) := by rw [gh4]; exact hset_eq
      have hM2 := hM1.c2 gs4 (fun q hq => gk4 q hq)
      have hk2 := hk1.tr (kpB.one (i := 2) (by omega) (fun q hq => gk4 q hq))
      have hR2 := hR.cy ht (c := 0) (Or.inl rfl)
      refine V.run hF [(.aload_n 0, 1, .null)] (pc' := 47) (L' := [some (.ref (B 0)), some (.int (nI t))]) (st' := [.ref (B 0)]) (by decide +kernel) rfl ?_
      have gf5 : h_4 (B 0) = some (.inr (4, [.int 0, .int (uth u), .int (nI (gT σ)), .ref (B 1), .ref (B 2), .ref (B 3), .ref (B 4), .ref (B 5), .int (nI (gy σ)), .int (gme σ), .int (gde σ), .ref (B 6), .ref (B 7)])) := (gk4 (B 0) (by first | assumption | exact Ne.symm (by assumption) | omega)).trans hM1.2.1
      refine V.getf hG hF k_RX4_17 (by decide +kernel) gf5 rfl ?_
      refine V.run hF [(.iload_n 1, 1, .null)] (pc' := 51) (L' := [some (.ref (B 0)), some (.int (nI t))]) (st' := [.int (nI t), .ref (B 2)]) (by decide +kernel) rfl ?_
      refine V.zaldN (j := t) hG hF (by decide +kernel) gs4 (by omega) (by decide) ?_
      rw [upd_s]
      exact V.retz hF (by decide +kernel) (nz (Or.inl rfl)) (Or.inr ⟨tf_1 c1, t, ht, rfl, by rw [e], by rw [e]; exact ⟨_, _, _, hR2, hM2, hk2⟩⟩)
    · skip
      have e : ng (gce σ t) = 1 := if_pos c3
      refine V.run hF [(.iconst 1, 1, .int 1), (.goto 4, 3, .null)] (pc' := 45) (L' := [some (.ref (B 0)), some (.int (nI t))]) (st' := [.int 1, .int (nI t), .ref (B 2)]) (by decide +kernel) rfl ?_
      refine V.zastN (j := t) hG hF (by decide +kernel) hM1.2.2.2.1 (by omega) (by decide) (nz (Or.inr rfl)) ?_
      obtain ⟨h_6, gh6⟩ : ∃ z : Hp, z = hset h1 (B 2) (.inl (1, 8, .inl (upd (ubl u) t 1))) := ⟨_, rfl⟩
      refine V.hp gh6 ?_
      have gk6 : ∀ q : Nat, q ≠ (B 2) → h_6 q = h1 q := fun q hq => by rw [gh6]; exact hset_ne hq
      have gs6 : h_6 (B 2) = some (.inl (1, 8, .inl (upd (ubl u) t 1))) := by rw [gh6]; exact hset_eq
      have hM2 := hM1.c2 gs6 (fun q hq => gk6 q hq)
      have hk2 := hk1.tr (kpB.one (i := 2) (by omega) (fun q hq => gk6 q hq))
      have hR2 := hR.cy ht (c := 1) (Or.inr rfl)
      refine V.run hF [(.aload_n 0, 1, .null)] (pc' := 47) (L' := [some (.ref (B 0)), some (.int (nI t))]) (st' := [.ref (B 0)]) (by decide +kernel) rfl ?_
      have gf7 : h_6 (B 0) = some (.inr (4, [.int 0, .int (uth u), .int (nI (gT σ)), .ref (B 1), .ref (B 2), .ref (B 3), .ref (B 4), .ref (B 5), .int (nI (gy σ)), .int (gme σ), .int (gde σ), .ref (B 6), .ref (B 7)])) := (gk6 (B 0) (by first | assumption | exact Ne.symm (by assumption) | omega)).trans hM1.2.1
      refine V.getf hG hF k_RX4_17 (by decide +kernel) gf7 rfl ?_
      refine V.run hF [(.iload_n 1, 1, .null)] (pc' := 51) (L' := [some (.ref (B 0)), some (.int (nI t))]) (st' := [.int (nI t), .ref (B 2)]) (by decide +kernel) rfl ?_
      refine V.zaldN (j := t) hG hF (by decide +kernel) gs6 (by omega) (by decide) ?_
      rw [upd_s]
      exact V.retz hF (by decide +kernel) (nz (Or.inr rfl)) (Or.inr ⟨tf_1 c1, t, ht, rfl, by rw [e], by rw [e]; exact ⟨_, _, _, hR2, hM2, hk2⟩⟩)
end Mx