/-! ===== TallyWaxModel: what changes ===== -/
def MS (h h' : Hp) (B : Nat → Nat) (σ : Sg) (k : Int32) : Prop := ∃ u md hs, RM σ u ∧ MO h' B σ k u md hs ∧ kpB h h' B
abbrev anyI (v : Option Value) : Prop := ∃ z : Int32, v = some (.int z)
section Mw
variable {G : Gt} {h h' : Hp} {B : Nat → Nat} {σ : Sg} {x : Int32} {u : Mu} {md hs : Nat → Int32}
theorem MO.c0 (hM : MO h B σ x u md hs) {σ' : Sg} {y th : Int32} (h0 : h' (B 0) = some (.inr (4, [.int y, .int th, .int (nI (gT σ')), .ref (B 1), .ref (B 2), .ref (B 3), .ref (B 4), .ref (B 5), .int (nI (gy σ')), .int (gme σ'), .int (gde σ'), .ref (B 6), .ref (B 7)]))) (hk : ∀ q, q ≠ B 0 → h' q = h q) : MO h' B σ' y (th, u.2) md hs := by
  obtain ⟨hI, -, h1, h2, h3, h4, h5, h6, h7⟩ := hM
  have n : ∀ i, i < 8 → i ≠ 0 → h' (B i) = h (B i) := fun i hi h => hk _ (hI.ne hi (by omega) h)
  exact ⟨hI, h0, (n 1 (by omega) (by omega)).trans h1, (n 2 (by omega) (by omega)).trans h2, (n 3 (by omega) (by omega)).trans h3, (n 4 (by omega) (by omega)).trans h4, (n 5 (by omega) (by omega)).trans h5, (n 6 (by omega) (by omega)).trans h6, (n 7 (by omega) (by omega)).trans h7⟩
theorem MO.c1 (hM : MO h B σ x u md hs) {f : Nat → Int32} (hn : h' (B 1) = some (.inl (0, 8, .inl f))) (hk : ∀ q, q ≠ B 1 → h' q = h q) : MO h' B σ x (uth u, f, ubl u, umn u, uli u, uhe u) md hs := by
  obtain ⟨hI, h0, h1, h2, h3, h4, h5, h6, h7⟩ := hM
  have n : ∀ i, i < 8 → i ≠ 1 → h' (B i) = h (B i) := fun i hi h => hk _ (hI.ne hi (by omega) h)
  exact ⟨hI, (n 0 (by omega) (by omega)).trans h0, hn, (n 2 (by omega) (by omega)).trans h2, (n 3 (by omega) (by omega)).trans h3, (n 4 (by omega) (by omega)).trans h4, (n 5 (by omega) (by omega)).trans h5, (n 6 (by omega) (by omega)).trans h6, (n 7 (by omega) (by omega)).trans h7⟩
theorem MO.c2 (hM : MO h B σ x u md hs) {f : Nat → Int32} (hn : h' (B 2) = some (.inl (1, 8, .inl f))) (hk : ∀ q, q ≠ B 2 → h' q = h q) : MO h' B σ x (uth u, uha u, f, umn u, uli u, uhe u) md hs := by
  obtain ⟨hI, h0, h1, h2, h3, h4, h5, h6, h7⟩ := hM
  have n : ∀ i, i < 8 → i ≠ 2 → h' (B i) = h (B i) := fun i hi h => hk _ (hI.ne hi (by omega) h)
  exact ⟨hI, (n 0 (by omega) (by omega)).trans h0, (n 1 (by omega) (by omega)).trans h1, hn, (n 3 (by omega) (by omega)).trans h3, (n 4 (by omega) (by omega)).trans h4, (n 5 (by omega) (by omega)).trans h5, (n 6 (by omega) (by omega)).trans h6, (n 7 (by omega) (by omega)).trans h7⟩
theorem MO.c3 (hM : MO h B σ x u md hs) {f : Nat → Int32} (hn : h' (B 3) = some (.inl (0, 8, .inl f))) (hk : ∀ q, q ≠ B 3 → h' q = h q) : MO h' B σ x (uth u, uha u, ubl u, f, uli u, uhe u) md hs := by
  obtain ⟨hI, h0, h1, h2, h3, h4, h5, h6, h7⟩ := hM
  have n : ∀ i, i < 8 → i ≠ 3 → h' (B i) = h (B i) := fun i hi h => hk _ (hI.ne hi (by omega) h)
  exact ⟨hI, (n 0 (by omega) (by omega)).trans h0, (n 1 (by omega) (by omega)).trans h1, (n 2 (by omega) (by omega)).trans h2, hn, (n 4 (by omega) (by omega)).trans h4, (n 5 (by omega) (by omega)).trans h5, (n 6 (by omega) (by omega)).trans h6, (n 7 (by omega) (by omega)).trans h7⟩
theorem MO.c4 (hM : MO h B σ x u md hs) {f : Nat → Int32} (hn : h' (B 4) = some (.inl (0, 384, .inl f))) (hk : ∀ q, q ≠ B 4 → h' q = h q) : MO h' B σ x (uth u, uha u, ubl u, umn u, f, uhe u) md hs := by
  obtain ⟨hI, h0, h1, h2, h3, h4, h5, h6, h7⟩ := hM
  have n : ∀ i, i < 8 → i ≠ 4 → h' (B i) = h (B i) := fun i hi h => hk _ (hI.ne hi (by omega) h)
  exact ⟨hI, (n 0 (by omega) (by omega)).trans h0, (n 1 (by omega) (by omega)).trans h1, (n 2 (by omega) (by omega)).trans h2, (n 3 (by omega) (by omega)).trans h3, hn, (n 5 (by omega) (by omega)).trans h5, (n 6 (by omega) (by omega)).trans h6, (n 7 (by omega) (by omega)).trans h7⟩
theorem MO.c5 (hM : MO h B σ x u md hs) {f : Nat → Int32} (hn : h' (B 5) = some (.inl (0, 10, .inl f))) (hk : ∀ q, q ≠ B 5 → h' q = h q) : MO h' B σ x (uth u, uha u, ubl u, umn u, uli u, f) md hs := by
  obtain ⟨hI, h0, h1, h2, h3, h4, h5, h6, h7⟩ := hM
  have n : ∀ i, i < 8 → i ≠ 5 → h' (B i) = h (B i) := fun i hi h => hk _ (hI.ne hi (by omega) h)
  exact ⟨hI, (n 0 (by omega) (by omega)).trans h0, (n 1 (by omega) (by omega)).trans h1, (n 2 (by omega) (by omega)).trans h2, (n 3 (by omega) (by omega)).trans h3, (n 4 (by omega) (by omega)).trans h4, hn, (n 6 (by omega) (by omega)).trans h6, (n 7 (by omega) (by omega)).trans h7⟩
theorem inH_iff {v : Int32} : (¬ v < 0 ∧ ¬ nI 9 < v) ↔ inH v := and_congr Iff.rfl (le_sub1 (n := 10) (by decide))
theorem inE_iff {v : Int32} : (¬ v < 0 ∧ ¬ nI 9 < v) ↔ inE v := and_congr Iff.rfl Int32.not_lt
theorem inHa_iff {v : Int32} : (¬ v < 1 ∧ ¬ nI 9 < v) ↔ inHa v := and_congr Iff.rfl Int32.not_lt
set_option maxHeartbeats 4000000 in
theorem c_X4_setHeat (hG : GOk G) (hM : MO h B σ x u md hs) (hR : RM σ u) (v w : Int32) : Ct G yX4_setHeat (.code yX4_setHeat cX4_setHeat 4 (some .int)) 2 42 0 0 [.ref (B 0), .int v, .int w] h (fun v' h' => (¬ inH v ∧ anyI v' ∧ MS h h' B σ 1) ∨ (inH v ∧ ¬ inE w ∧ anyI v' ∧ MS h h' B σ 2) ∨ (inH v ∧ inE w ∧ v' = some (.int (ghe σ v.toNatClampNeg)) ∧ MS h h' B (sHe σ (upd (ghe σ) v.toNatClampNeg w)) 0)) pxN := by
  refine Ct.of (by decide +kernel) (Nat.le_of_ble_eq_true rfl) fun F hF hT hN hRm => ?_
  have h8 := hR.1
  refine V.run hF [(.aload_n 0, 1, .null), (.iconst 0, 1, .int 0)] (pc' := 2) (L' := [some (.ref (B 0)), some (.int v), some (.int w), none]) (st' := [.int 0, .ref (B 0)]) (by decide +kernel) rfl ?_
  refine V.putf hG hF k_RX4_36 (by decide +kernel) hM.2.1 (fun C T N hc => by cases hc; exact ⟨rfl, .int, by decide +kernel, rfl, rfl⟩) (Nat.le_of_ble_eq_true rfl) ?_
  obtain ⟨h_1, gh1⟩ : ∃ z : Hp, z = hset h (B 0) (.inr (4, [.int 0, .int (uth u), .int (nI (gT σ)), .ref (B 1), .ref (B 2), .ref (B 3), .ref (B 4), .ref (B 5), .int (nI (gy σ)), .int (gme σ), .int (gde σ), .ref (B 6), .ref (B 7)])) := ⟨_, rfl⟩
  refine V.hp gh1 ?_
  have gk1 : ∀ q : Nat, q ≠ (B 0) → h_1 q = h q := fun q hq => by rw [gh1]; exact hset_ne hq
  have gs1 : h_1 (B 0) = some (.inr (4, [.int 0, .int (uth u), .int (nI (gT σ)), .ref (B 1), .ref (B 2), .ref (B 3), .ref (B 4), .ref (B 5), .int (nI (gy σ)), .int (gme σ), .int (gde σ), .ref (B 6), .ref (B 7)])) := by rw [gh1]; exact hset_eq
  have hM1 := hM.th gs1 (fun q hq => gk1 q hq)
  have hk1 : kpB h h_1 B := kpB.one (i := 0) (by omega) (fun q hq => gk1 q hq)
  obtain ⟨h1, eh1⟩ : ∃ z, z = h_1 := ⟨_, rfl⟩
  rw [← eh1] at hM1 hk1 ⊢
  refine V.run hF [(.iload_n 1, 1, .null), (.iconst 0, 1, .int 0), (.bipush 9, 2, .int (nI 9))] (pc' := 9) (L' := [some (.ref (B 0)), some (.int v), some (.int w), none]) (st' := [.int (nI 9), .int 0, .int v]) (by decide +kernel) rfl ?_
  refine V.callS (As := [.int v, .int 0, .int (nI 9)]) (st := []) hG hF k_RX4_39 (by decide +kernel) (c_X4_isIn v 0 (nI 9)) rfl ⟨by rw [hRm]; decide, by rw [hRm]; decide⟩ (Nat.le_of_ble_eq_true rfl) rfl (fun v h_2 gp2 => ?_) (fun E h9 hx => hx.elim)
  obtain ⟨rfl, he_gp2⟩ := gp2
  rw [he_gp2]
  show V G F _ _ _ 12 [some (.ref (B 0)), some (.int v), some (.int w), none] [.int (tf (¬ v < 0 ∧ ¬ nI 9 < v))] h1
  rw [tf_iff inH_iff]
  refine V.if_ne hF (off := 9) (tgt := 21) (by decide +kernel) (by decide) (fun c1 => ?_) (fun c1 => ?_)
  · skip
    refine V.run hF [(.iload_n 2, 1, .null), (.iconst 0, 1, .int 0), (.bipush 9, 2, .int (nI 9))] (pc' := 25) (L' := [some (.ref (B 0)), some (.int v), some (.int w), none]) (st' := [.int (nI 9), .int 0, .int w]) (by decide +kernel) rfl ?_
    refine V.callS (As := [.int w, .int 0, .int (nI 9)]) (st := []) hG hF k_RX4_39 (by decide +kernel) (c_X4_isIn w 0 (nI 9)) rfl ⟨by rw [hRm]; decide, by rw [hRm]; decide⟩ (Nat.le_of_ble_eq_true rfl) rfl (fun v h_3 gp3 => ?_) (fun E h9 hx => hx.elim)
    obtain ⟨rfl, he_gp3⟩ := gp3
    rw [he_gp3]
    show V G F _ _ _ 28 [some (.ref (B 0)), some (.int v), some (.int w), none] [.int (tf (¬ w < 0 ∧ ¬ nI 9 < w))] h1
    rw [tf_iff inE_iff]
    refine V.if_ne hF (off := 9) (tgt := 37) (by decide +kernel) (by decide) (fun c2 => ?_) (fun c2 => ?_)
    · obtain ⟨k, hk, rfl⟩ := inH_of (tf_1 c1)
      have ec : (nI k).toNatClampNeg = k := nI_clamp (by omega)
      refine V.run hF [(.aload_n 0, 1, .null)] (pc' := 38) (L' := [some (.ref (B 0)), some (.int (nI k)), some (.int w), none]) (st' := [.ref (B 0)]) (by decide +kernel) rfl ?_
      refine V.getf hG hF k_RX4_27 (by decide +kernel) hM1.2.1 rfl ?_
      refine V.run hF [(.iload_n 1, 1, .null)] (pc' := 42) (L' := [some (.ref (B 0)), some (.int (nI k)), some (.int w), none]) (st' := [.int (nI k), .ref (B 5)]) (by decide +kernel) rfl ?_
      refine V.ialdN (j := k) hG hF (by decide +kernel) hM1.2.2.2.2.2.2.1 (by omega) (by decide) ?_
      rw [hR.2.2.1 k hk]
      refine V.run hF [(.istore_n 3, 1, .null), (.aload_n 0, 1, .null)] (pc' := 45) (L' := [some (.ref (B 0)), some (.int (nI k)), some (.int w), some (.int (ghe σ k))]) (st' := [.ref (B 0)]) (by decide +kernel) rfl ?_
      refine V.getf hG hF k_RX4_27 (by decide +kernel) hM1.2.1 rfl ?_
      refine V.run hF [(.iload_n 1, 1, .null), (.iload_n 2, 1, .null)] (pc' := 50) (L' := [some (.ref (B 0)), some (.int (nI k)), some (.int w), some (.int (ghe σ k))]) (st' := [.int w, .int (nI k), .ref (B 5)]) (by decide +kernel) rfl ?_
      refine V.iastN (j := k) hG hF (by decide +kernel) hM1.2.2.2.2.2.2.1 (by omega) (by decide) ?_
      obtain ⟨h_4, gh4⟩ : ∃ z : Hp, z = hset h1 (B 5) (.inl (0, 10, .inl (upd (uhe u) k w))) := ⟨_, rfl⟩
      refine V.hp gh4 ?_
      have gk4 : ∀ q : Nat, q ≠ (B 5) → h_4 q = h1 q := fun q hq => by rw [gh4]; exact hset_ne hq
      have gs4 : h_4 (B 5) = some (.inl (0, 10, .inl (upd (uhe u) k w))) := by rw [gh4]; exact hset_eq
      refine V.run hF [(.iload_n 3, 1, .null)] (pc' := 52) (L' := [some (.ref (B 0)), some (.int (nI k)), some (.int w), some (.int (ghe σ k))]) (st' := [.int (ghe σ k)]) (by decide +kernel) rfl ?_
      have hM2 := hM1.c5 gs4 (fun q hq => gk4 q hq)
      have hR2 : RM (sHe σ (upd (ghe σ) k w)) (uth u, uha u, ubl u, umn u, uli u, upd (uhe u) k w) := ⟨hR.1, hR.2.1, fun j hj => by
        show upd (uhe u) k w j = upd (ghe σ) k w j
        by_cases z : j = k
        · rw [z, upd_s, upd_s]
        · rw [upd_n z, upd_n z]
          exact hR.2.2.1 j hj, hR.2.2.2.1, hR.2.2.2.2⟩
      exact V.reti hF (by decide +kernel) (Or.inr (Or.inr ⟨tf_1 c1, tf_1 c2, by rw [ec], by rw [ec]; exact ⟨_, _, _, hR2, hM2, hk1.tr (kpB.one (i := 5) (by omega) (fun q hq => gk4 q hq))⟩⟩))
    · skip
      refine V.run hF [(.aload_n 0, 1, .null), (.iconst 2, 1, .int 2)] (pc' := 33) (L' := [some (.ref (B 0)), some (.int v), some (.int w), none]) (st' := [.int 2, .ref (B 0)]) (by decide +kernel) rfl ?_
      refine V.callV (As := [.int 2]) (st := []) hG hF k_RX4_86 (by decide +kernel) (c_X4_fail hG hM1 2) hM1.2.1 rfl rfl ⟨by rw [hRm]; decide, by rw [hRm]; decide⟩ (Nat.le_of_ble_eq_true rfl) rfl (fun v2 h2 hp => ?_) (fun E h9 hx => hx.elim)
      obtain ⟨rfl, hM2, hk2⟩ := hp
      show V G F _ _ _ 36 [some (.ref (B 0)), some (.int v), some (.int w), none] [.int 0] h2
      exact V.reti hF (by decide +kernel) (Or.inr (Or.inl ⟨tf_1 c1, tf_0 c2, ⟨_, rfl⟩, _, _, _, hR, hM2, hk1.tr hk2⟩))
  · skip
    refine V.run hF [(.aload_n 0, 1, .null), (.iconst 1, 1, .int 1)] (pc' := 17) (L' := [some (.ref (B 0)), some (.int v), some (.int w), none]) (st' := [.int 1, .ref (B 0)]) (by decide +kernel) rfl ?_
    refine V.callV (As := [.int 1]) (st := []) hG hF k_RX4_86 (by decide +kernel) (c_X4_fail hG hM1 1) hM1.2.1 rfl rfl ⟨by rw [hRm]; decide, by rw [hRm]; decide⟩ (Nat.le_of_ble_eq_true rfl) rfl (fun v2 h2 hp => ?_) (fun E h9 hx => hx.elim)
    obtain ⟨rfl, hM2, hk2⟩ := hp
    show V G F _ _ _ 20 [some (.ref (B 0)), some (.int v), some (.int w), none] [.int 0] h2
    exact V.reti hF (by decide +kernel) (Or.inl ⟨tf_0 c1, ⟨_, rfl⟩, _, _, _, hR, hM2, hk1.tr hk2⟩)
set_option maxHeartbeats 4000000 in
theorem c_X4_addTablet (hG : GOk G) (hM : MO h B σ x u md hs) (hR : RM σ u) (v : Int32) : Ct G yX4_addTablet (.code yX4_addTablet cX4_addTablet 2 (some .int)) 2 42 0 0 [.ref (B 0), .int v] h (fun v' h' => (¬ inHa v ∧ anyI v' ∧ MS h h' B σ 1) ∨ (inHa v ∧ ¬ gT σ < 8 ∧ anyI v' ∧ MS h h' B σ 2) ∨ (inHa v ∧ gT σ < 8 ∧ v' = some (.int (nI (gT σ))) ∧ MS h h' B (sAdd σ v) 0)) pxN := by
  refine Ct.of (by decide +kernel) (Nat.le_of_ble_eq_true rfl) fun F hF hT hN hRm => ?_
  have h8 := hR.1
  refine V.run hF [(.aload_n 0, 1, .null), (.iconst 0, 1, .int 0)] (pc' := 2) (L' := [some (.ref (B 0)), some (.int v)]) (st' := [.int 0, .ref (B 0)]) (by decide +kernel) rfl ?_
  refine V.putf hG hF k_RX4_36 (by decide +kernel) hM.2.1 (fun C T N hc => by cases hc; exact ⟨rfl, .int, by decide +kernel, rfl, rfl⟩) (Nat.le_of_ble_eq_true rfl) ?_
  obtain ⟨h_1, gh1⟩ : ∃ z : Hp, z = hset h (B 0) (.inr (4, [.int 0, .int (uth u), .int (nI (gT σ)), .ref (B 1), .ref (B 2), .ref (B 3), .ref (B 4), .ref (B 5), .int (nI (gy σ)), .int (gme σ), .int (gde σ), .ref (B 6), .ref (B 7)])) := ⟨_, rfl⟩
  refine V.hp gh1 ?_
  have gk1 : ∀ q : Nat, q ≠ (B 0) → h_1 q = h q := fun q hq => by rw [gh1]; exact hset_ne hq
  have gs1 : h_1 (B 0) = some (.inr (4, [.int 0, .int (uth u), .int (nI (gT σ)), .ref (B 1), .ref (B 2), .ref (B 3), .ref (B 4), .ref (B 5), .int (nI (gy σ)), .int (gme σ), .int (gde σ), .ref (B 6), .ref (B 7)])) := by rw [gh1]; exact hset_eq
  have hM1 := hM.th gs1 (fun q hq => gk1 q hq)
  have hk1 : kpB h h_1 B := kpB.one (i := 0) (by omega) (fun q hq => gk1 q hq)
  obtain ⟨h1, eh1⟩ : ∃ z, z = h_1 := ⟨_, rfl⟩
  rw [← eh1] at hM1 hk1 ⊢
  refine V.run hF [(.iload_n 1, 1, .null), (.iconst 1, 1, .int 1), (.bipush 9, 2, .int (nI 9))] (pc' := 9) (L' := [some (.ref (B 0)), some (.int v)]) (st' := [.int (nI 9), .int 1, .int v]) (by decide +kernel) rfl ?_
  refine V.callS (As := [.int v, .int 1, .int (nI 9)]) (st := []) hG hF k_RX4_39 (by decide +kernel) (c_X4_isIn v 1 (nI 9)) rfl ⟨by rw [hRm]; decide, by rw [hRm]; decide⟩ (Nat.le_of_ble_eq_true rfl) rfl (fun v h_2 gp2 => ?_) (fun E h9 hx => hx.elim)
  obtain ⟨rfl, he_gp2⟩ := gp2
  rw [he_gp2]
  show V G F _ _ _ 12 [some (.ref (B 0)), some (.int v)] [.int (tf (¬ v < 1 ∧ ¬ nI 9 < v))] h1
  rw [tf_iff inHa_iff]
  refine V.if_ne hF (off := 9) (tgt := 21) (by decide +kernel) (by decide) (fun c1 => ?_) (fun c1 => ?_)
  · skip
    refine V.run hF [(.aload_n 0, 1, .null)] (pc' := 22) (L' := [some (.ref (B 0)), some (.int v)]) (st' := [.ref (B 0)]) (by decide +kernel) rfl ?_
    refine V.getf hG hF k_RX4_43 (by decide +kernel) hM1.2.1 rfl ?_
    refine V.run hF [(.bipush 8, 2, .int (nI 8))] (pc' := 27) (L' := [some (.ref (B 0)), some (.int v)]) (st' := [.int (nI 8), .int (nI (gT σ))]) (by decide +kernel) rfl ?_
    refine V.icmpN_ne (i := gT σ) (j := 8) hF (off := 9) (tgt := 36) (by decide +kernel) (by decide) (by omega) (by omega) (fun c2 => ?_) (fun c2 => ?_)
    · have hT8 : gT σ < 8 := by omega
      have n01 : B 0 ≠ B 1 := hM.1.ne (by omega) (by omega) (by omega)
      refine V.run hF [(.aload_n 0, 1, .null)] (pc' := 37) (L' := [some (.ref (B 0)), some (.int v)]) (st' := [.ref (B 0)]) (by decide +kernel) rfl ?_
      refine V.getf hG hF k_RX4_13 (by decide +kernel) hM1.2.1 rfl ?_
      refine V.run hF [(.aload_n 0, 1, .null)] (pc' := 41) (L' := [some (.ref (B 0)), some (.int v)]) (st' := [.ref (B 0), .ref (B 1)]) (by decide +kernel) rfl ?_
      refine V.getf hG hF k_RX4_43 (by decide +kernel) hM1.2.1 rfl ?_
      refine V.run hF [(.iload_n 1, 1, .null)] (pc' := 45) (L' := [some (.ref (B 0)), some (.int v)]) (st' := [.int v, .int (nI (gT σ)), .ref (B 1)]) (by decide +kernel) rfl ?_
      refine V.iastN (j := gT σ) hG hF (by decide +kernel) hM1.2.2.1 (by omega) (by decide) ?_
      obtain ⟨h_3, gh3⟩ : ∃ z : Hp, z = hset h1 (B 1) (.inl (0, 8, .inl (upd (uha u) (gT σ) v))) := ⟨_, rfl⟩
      refine V.hp gh3 ?_
      have gk3 : ∀ q : Nat, q ≠ (B 1) → h_3 q = h1 q := fun q hq => by rw [gh3]; exact hset_ne hq
      have gs3 : h_3 (B 1) = some (.inl (0, 8, .inl (upd (uha u) (gT σ) v))) := by rw [gh3]; exact hset_eq
      have hM2 := hM1.c1 gs3 (fun q hq => gk3 q hq)
      have hk2 := hk1.tr (kpB.one (i := 1) (by omega) (fun q hq => gk3 q hq))
      refine V.run hF [(.aload_n 0, 1, .null), (.dup, 1, .null)] (pc' := 48) (L' := [some (.ref (B 0)), some (.int v)]) (st' := [.ref (B 0), .ref (B 0)]) (by decide +kernel) rfl ?_
      have gf4 : h_3 (B 0) = some (.inr (4, [.int 0, .int (uth u), .int (nI (gT σ)), .ref (B 1), .ref (B 2), .ref (B 3), .ref (B 4), .ref (B 5), .int (nI (gy σ)), .int (gme σ), .int (gde σ), .ref (B 6), .ref (B 7)])) := (gk3 (B 0) (by first | assumption | exact Ne.symm (by assumption) | omega)).trans hM1.2.1
      refine V.getf hG hF k_RX4_43 (by decide +kernel) gf4 rfl ?_
      refine V.run hF [(.iconst 1, 1, .int 1), (.iadd, 1, .null)] (pc' := 53) (L' := [some (.ref (B 0)), some (.int v)]) (st' := [.int (nI (gT σ) + 1), .ref (B 0)]) (by decide +kernel) rfl ?_
      rw [nI_1 (gT σ)]
      refine V.putf hG hF k_RX4_43 (by decide +kernel) gf4 (fun C T N hc => by cases hc; exact ⟨rfl, .int, by decide +kernel, rfl, rfl⟩) (Nat.le_of_ble_eq_true rfl) ?_
      obtain ⟨h_5, gh5⟩ : ∃ z : Hp, z = hset h_3 (B 0) (.inr (4, [.int 0, .int (uth u), .int (nI (gT σ + 1)), .ref (B 1), .ref (B 2), .ref (B 3), .ref (B 4), .ref (B 5), .int (nI (gy σ)), .int (gme σ), .int (gde σ), .ref (B 6), .ref (B 7)])) := ⟨_, rfl⟩
      refine V.hp gh5 ?_
      have gk5 : ∀ q : Nat, q ≠ (B 0) → h_5 q = h_3 q := fun q hq => by rw [gh5]; exact hset_ne hq
      have gs5 : h_5 (B 0) = some (.inr (4, [.int 0, .int (uth u), .int (nI (gT σ + 1)), .ref (B 1), .ref (B 2), .ref (B 3), .ref (B 4), .ref (B 5), .int (nI (gy σ)), .int (gme σ), .int (gde σ), .ref (B 6), .ref (B 7)])) := by rw [gh5]; exact hset_eq
      have hM3 := hM2.c0 (σ' := sAdd σ v) gs5 (fun q hq => gk5 q hq)
      have hk3 := hk2.tr (kpB.one (i := 0) (by omega) (fun q hq => gk5 q hq))
      have hR3 : RM (sAdd σ v) (uth u, upd (uha u) (gT σ) v, ubl u, umn u, uli u, uhe u) := by
        refine ⟨hT8, hR.2.1, hR.2.2.1, fun t ht => ?_, fun t h1 h2 => hR.2.2.2.2 t (Nat.le_of_succ_le h1) h2⟩
        by_cases e : t = gT σ
        · obtain ⟨z1, z2⟩ := hR.2.2.2.2 t (by omega) (by omega)
          unfold sAdd
          simp only [gha, gce, gn, gDD, gC, gM, gW, gT, uha, ubl, umn, uli]
          rw [e] at z1 z2 ⊢
          simp only [vu_s, upd_s]
          exact ⟨trivial, z2, Or.inl rfl, z1, Nat.zero_le _, fun l hl => absurd hl (Nat.not_lt_zero l)⟩
        · have ht' : t < gT σ := by
            have : t < gT σ + 1 := ht
            omega
          have := hR.2.2.2.1 t ht'
          unfold sAdd
          simp only [gha, gce, gn, gDD, gC, gM, gW, gT, uha, ubl, umn, uli] at this e ⊢
          simp only [vu_n e, upd_n e]
          exact this
      refine V.run hF [(.aload_n 0, 1, .null)] (pc' := 57) (L' := [some (.ref (B 0)), some (.int v)]) (st' := [.ref (B 0)]) (by decide +kernel) rfl ?_
      refine V.getf hG hF k_RX4_43 (by decide +kernel) gs5 rfl ?_
      refine V.run hF [(.iconst 1, 1, .int 1), (.isub, 1, .null)] (pc' := 62) (L' := [some (.ref (B 0)), some (.int v)]) (st' := [.int (nI (gT σ + 1) - 1)]) (by decide +kernel) rfl ?_
      rw [nI_pred]
      exact V.reti hF (by decide +kernel) (Or.inr (Or.inr ⟨tf_1 c1, hT8, rfl, _, _, _, hR3, hM3, hk3⟩))
    · skip
      refine V.run hF [(.aload_n 0, 1, .null), (.iconst 2, 1, .int 2)] (pc' := 32) (L' := [some (.ref (B 0)), some (.int v)]) (st' := [.int 2, .ref (B 0)]) (by decide +kernel) rfl ?_
      refine V.callV (As := [.int 2]) (st := []) hG hF k_RX4_86 (by decide +kernel) (c_X4_fail hG hM1 2) hM1.2.1 rfl rfl ⟨by rw [hRm]; decide, by rw [hRm]; decide⟩ (Nat.le_of_ble_eq_true rfl) rfl (fun v2 h2 hp => ?_) (fun E h9 hx => hx.elim)
      obtain ⟨rfl, hM2, hk2⟩ := hp
      show V G F _ _ _ 35 [some (.ref (B 0)), some (.int v)] [.int 0] h2
      exact V.reti hF (by decide +kernel) (Or.inr (Or.inl ⟨tf_1 c1, by omega, ⟨_, rfl⟩, _, _, _, hR, hM2, hk1.tr hk2⟩))
  · skip
    refine V.run hF [(.aload_n 0, 1, .null), (.iconst 1, 1, .int 1)] (pc' := 17) (L' := [some (.ref (B 0)), some (.int v)]) (st' := [.int 1, .ref (B 0)]) (by decide +kernel) rfl ?_
    refine V.callV (As := [.int 1]) (st := []) hG hF k_RX4_86 (by decide +kernel) (c_X4_fail hG hM1 1) hM1.2.1 rfl rfl ⟨by rw [hRm]; decide, by rw [hRm]; decide⟩ (Nat.le_of_ble_eq_true rfl) rfl (fun v2 h2 hp => ?_) (fun E h9 hx => hx.elim)
    obtain ⟨rfl, hM2, hk2⟩ := hp
    show V G F _ _ _ 20 [some (.ref (B 0)), some (.int v)] [.int 0] h2
    exact V.reti hF (by decide +kernel) (Or.inl ⟨tf_0 c1, ⟨_, rfl⟩, _, _, _, hR, hM2, hk1.tr hk2⟩)
end Mw