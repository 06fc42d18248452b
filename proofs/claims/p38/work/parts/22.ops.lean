/-! ===== TallyWax: public operations, first part ===== -/
abbrev b01 (x : Int32) : Prop := x = 0 ∨ x = 1
theorem nz {x : Int32} (h : b01 x) : narrow .boolean (.int x) = .int x := by
  rcases h with rfl | rfl
  · decide +kernel
  · decide +kernel
theorem fz {x : Int32} (h : b01 x) : fits .boolean (.int x) = true := by
  rcases h with rfl | rfl
  · decide +kernel
  · decide +kernel
theorem tf01 (b : Prop) [Decidable b] : b01 (tf b) := by
  by_cases h : b
  · exact Or.inr (if_pos h)
  · exact Or.inl (if_neg h)
abbrev pxI (c : Prop) (h : Hp) : String → Hp → Prop := fun E h' => E = eI ∧ ¬ c ∧ h' = h
abbrev pxA (c : Prop) (h : Hp) : String → Hp → Prop := fun E h' => E = eA ∧ ¬ c ∧ h' = h
section Oq
variable {G : Gt} {h : Hp} {A : Nat → Nat} {σ : Sg} {P : PS} {r : Nat → Int32}
set_option maxHeartbeats 4000000 in
theorem c_X3_year (hG : GOk G) (hC : CS h A σ P r) : Ct G yX3_year (.code yX3_year cX3_year 1 (some .int)) 0 0 0 0 [.ref (A 0)] h (is_i (nI (gy σ)) h) pxN := by
  refine Ct.of (by decide +kernel) (Nat.le_of_ble_eq_true rfl) fun F hF hT hN hRm => ?_
  obtain ⟨hI, hT8, hA, h1, h2, h3, h4, h5, h6⟩ := id hC
  refine V.run hF [(.aload_n 0, 1, .null)] (pc' := 1) (L' := [some (.ref (A 0))]) (st' := [.ref (A 0)]) (by decide +kernel) rfl ?_
  refine V.getf hG hF k_RX3_143 (by decide +kernel) hA rfl ?_
  exact V.reti hF (by decide +kernel) ⟨rfl, rfl⟩
set_option maxHeartbeats 4000000 in
theorem c_X3_tablets (hG : GOk G) (hC : CS h A σ P r) : Ct G yX3_tablets (.code yX3_tablets cX3_tablets 1 (some .int)) 0 0 0 0 [.ref (A 0)] h (is_i (nI (gT σ)) h) pxN := by
  refine Ct.of (by decide +kernel) (Nat.le_of_ble_eq_true rfl) fun F hF hT hN hRm => ?_
  obtain ⟨hI, hT8, hA, h1, h2, h3, h4, h5, h6⟩ := id hC
  refine V.run hF [(.aload_n 0, 1, .null)] (pc' := 1) (L' := [some (.ref (A 0))]) (st' := [.ref (A 0)]) (by decide +kernel) rfl ?_
  refine V.getf hG hF k_RX3_40 (by decide +kernel) hA rfl ?_
  exact V.reti hF (by decide +kernel) ⟨rfl, rfl⟩
set_option maxHeartbeats 4000000 in
theorem c_X3_melted (hG : GOk G) (hC : CS h A σ P r) : Ct G yX3_melted (.code yX3_melted cX3_melted 1 (some .int)) 0 0 0 0 [.ref (A 0)] h (is_i (gme σ) h) pxN := by
  refine Ct.of (by decide +kernel) (Nat.le_of_ble_eq_true rfl) fun F hF hT hN hRm => ?_
  obtain ⟨hI, hT8, hA, h1, h2, h3, h4, h5, h6⟩ := id hC
  refine V.run hF [(.aload_n 0, 1, .null)] (pc' := 1) (L' := [some (.ref (A 0))]) (st' := [.ref (A 0)]) (by decide +kernel) rfl ?_
  refine V.getf hG hF k_RX3_140 (by decide +kernel) hA rfl ?_
  exact V.reti hF (by decide +kernel) ⟨rfl, rfl⟩
set_option maxHeartbeats 4000000 in
theorem c_X3_denied (hG : GOk G) (hC : CS h A σ P r) : Ct G yX3_denied (.code yX3_denied cX3_denied 1 (some .int)) 0 0 0 0 [.ref (A 0)] h (is_i (gde σ) h) pxN := by
  refine Ct.of (by decide +kernel) (Nat.le_of_ble_eq_true rfl) fun F hF hT hN hRm => ?_
  obtain ⟨hI, hT8, hA, h1, h2, h3, h4, h5, h6⟩ := id hC
  refine V.run hF [(.aload_n 0, 1, .null)] (pc' := 1) (L' := [some (.ref (A 0))]) (st' := [.ref (A 0)]) (by decide +kernel) rfl ?_
  refine V.getf hG hF k_RX3_106 (by decide +kernel) hA rfl ?_
  exact V.reti hF (by decide +kernel) ⟨rfl, rfl⟩
set_option maxHeartbeats 4000000 in
theorem c_X3_isThere (hG : GOk G) (hC : CS h A σ P r) (x : Int32) (hz : ∀ p, p < 8 → b01 (gth σ p)) : Ct G yX3_isThere (.code yX3_isThere cX3_isThere 2 (some .boolean)) 7 102 1 6 [.ref (A 0), .int x] h (fun v h' => (∃ p, p < 8 ∧ x = nI p ∧ v = some (.int (gth σ p))) ∧ h' = h) (pxI (inP x) h) := by
  refine Ct.of (by decide +kernel) (Nat.le_of_ble_eq_true rfl) fun F hF hT hN hRm => ?_
  obtain ⟨hI, hT8, hA, h1, h2, h3, h4, h5, h6⟩ := id hC
  refine V.run hF [(.iload_n 1, 1, .null)] (pc' := 1) (L' := [some (.ref (A 0)), some (.int x)]) (st' := [.int x]) (by decide +kernel) rfl ?_
  refine V.callS (As := [.int x]) (st := []) hG hF k_RX3_60 (by decide +kernel) (c_X3_checkPerson hG x) rfl ⟨by rw [hRm]; decide, by rw [hRm]; decide⟩ (Nat.le_of_ble_eq_true rfl) rfl (fun v h1' hp => ?_) (fun E h9 hx => VX.out hF hT ⟨hx.1, hx.2.1, hx.2.2⟩)
  obtain ⟨hv, hx, he⟩ := hp
  rw [he, hv]
  show V G F _ _ _ 4 [some (.ref (A 0)), some (.int x)] [] h
  obtain ⟨p, hp8, rfl⟩ := inP_of hx
  refine V.run hF [(.aload_n 0, 1, .null)] (pc' := 5) (L' := [some (.ref (A 0)), some (.int (nI p))]) (st' := [.ref (A 0)]) (by decide +kernel) rfl ?_
  refine V.getf hG hF k_RX3_9 (by decide +kernel) hA rfl ?_
  refine V.run hF [(.iload_n 1, 1, .null)] (pc' := 9) (L' := [some (.ref (A 0)), some (.int (nI p))]) (st' := [.int (nI p), .ref (A 1)]) (by decide +kernel) rfl ?_
  refine V.zaldN (j := p) hG hF (by decide +kernel) h1 (by omega) (by decide) ?_
  exact V.retz hF (by decide +kernel) (nz (hz p hp8)) ⟨⟨p, hp8, rfl, rfl⟩, rfl⟩
set_option maxHeartbeats 4000000 in
theorem c_X3_linesOf (hG : GOk G) (hC : CS h A σ P r) (x : Int32) : Ct G yX3_linesOf (.code yX3_linesOf cX3_linesOf 2 (some .int)) 7 104 2 12 [.ref (A 0), .int x] h (fun v h' => (∃ t, t < gT σ ∧ x = nI t ∧ v = some (.int (nI (gn σ t)))) ∧ h' = h) (pxI (okT σ x) h) := by
  refine Ct.of (by decide +kernel) (Nat.le_of_ble_eq_true rfl) fun F hF hT hN hRm => ?_
  obtain ⟨hI, hT8, hA, h1, h2, h3, h4, h5, h6⟩ := id hC
  refine V.run hF [(.aload_n 0, 1, .null), (.iload_n 1, 1, .null)] (pc' := 2) (L' := [some (.ref (A 0)), some (.int x)]) (st' := [.int x, .ref (A 0)]) (by decide +kernel) rfl ?_
  refine V.callV (As := [.int x]) (st := []) hG hF k_RX3_52 (by decide +kernel) (c_X3_tabletAt hG hC x) hA rfl rfl ⟨by rw [hRm]; decide, by rw [hRm]; decide⟩ (Nat.le_of_ble_eq_true rfl) rfl (fun v h1' hp => ?_) (fun E h9 hx => VX.out hF hT ⟨hx.1, okT_no hT8 hx.2.1, hx.2.2⟩)
  obtain ⟨⟨t, ht, rfl, rfl⟩, he⟩ := hp
  rw [he]
  obtain ⟨t1, t2, t3⟩ := h6 t ht
  show V G F _ _ _ 5 [some (.ref (A 0)), some (.int (nI t))] [.ref (A (12 + 6 * t))] h
  refine V.getf hG hF k_RX3_56 (by decide +kernel) t1 rfl ?_
  refine V.getf hG hF k_RX3_67 (by decide +kernel) t2.1 rfl ?_
  exact V.reti hF (by decide +kernel) ⟨⟨t, ht, rfl, rfl⟩, rfl⟩
set_option maxHeartbeats 4000000 in
theorem c_X3_isInCellar (hG : GOk G) (hC : CS h A σ P r) (x : Int32) (hz : ∀ t, t < gT σ → b01 (gce σ t)) : Ct G yX3_isInCellar (.code yX3_isInCellar cX3_isInCellar 2 (some .boolean)) 7 104 2 12 [.ref (A 0), .int x] h (fun v h' => (∃ t, t < gT σ ∧ x = nI t ∧ v = some (.int (gce σ t))) ∧ h' = h) (pxI (okT σ x) h) := by
  refine Ct.of (by decide +kernel) (Nat.le_of_ble_eq_true rfl) fun F hF hT hN hRm => ?_
  obtain ⟨hI, hT8, hA, h1, h2, h3, h4, h5, h6⟩ := id hC
  refine V.run hF [(.aload_n 0, 1, .null), (.iload_n 1, 1, .null)] (pc' := 2) (L' := [some (.ref (A 0)), some (.int x)]) (st' := [.int x, .ref (A 0)]) (by decide +kernel) rfl ?_
  refine V.callV (As := [.int x]) (st := []) hG hF k_RX3_52 (by decide +kernel) (c_X3_tabletAt hG hC x) hA rfl rfl ⟨by rw [hRm]; decide, by rw [hRm]; decide⟩ (Nat.le_of_ble_eq_true rfl) rfl (fun v h1' hp => ?_) (fun E h9 hx => VX.out hF hT ⟨hx.1, okT_no hT8 hx.2.1, hx.2.2⟩)
  obtain ⟨⟨t, ht, rfl, rfl⟩, he⟩ := hp
  rw [he]
  obtain ⟨t1, t2, t3⟩ := h6 t ht
  show V G F _ _ _ 5 [some (.ref (A 0)), some (.int (nI t))] [.ref (A (12 + 6 * t))] h
  refine V.getf hG hF k_RX3_122 (by decide +kernel) t1 rfl ?_
  exact V.retz hF (by decide +kernel) (nz (hz t ht)) ⟨⟨t, ht, rfl, rfl⟩, rfl⟩
set_option maxHeartbeats 4000000 in
theorem c_X3_debtorOf (hG : GOk G) (hC : CS h A σ P r) (x y : Int32) : Ct G yX3_debtorOf (.code yX3_debtorOf cX3_debtorOf 3 (some .int)) 8 127 3 18 [.ref (A 0), .int x, .int y] h (fun v h' => (∃ t l, t < gT σ ∧ l < gn σ t ∧ x = nI t ∧ y = nI l ∧ v = some (.int (gDD σ t l))) ∧ h' = h) (pxI (okL σ x y) h) := by
  refine Ct.of (by decide +kernel) (Nat.le_of_ble_eq_true rfl) fun F hF hT hN hRm => ?_
  obtain ⟨hI, hT8, hA, h1, h2, h3, h4, h5, h6⟩ := id hC
  refine V.run hF [(.aload_n 0, 1, .null), (.iload_n 1, 1, .null), (.iload_n 2, 1, .null)] (pc' := 3) (L' := [some (.ref (A 0)), some (.int x), some (.int y)]) (st' := [.int y, .int x, .ref (A 0)]) (by decide +kernel) rfl ?_
  refine V.callV (As := [.int x, .int y]) (st := []) hG hF k_RX3_84 (by decide +kernel) (c_X3_linesWith hG hC x y) hA rfl rfl ⟨by rw [hRm]; decide, by rw [hRm]; decide⟩ (Nat.le_of_ble_eq_true rfl) rfl (fun v h1' hp => ?_) (fun E h9 hx => VX.out hF hT ⟨hx.1, hx.2.1, hx.2.2⟩)
  obtain ⟨⟨t, l, ht, hl, rfl, rfl, rfl⟩, he⟩ := hp
  rw [he]
  obtain ⟨t1, t2, t3⟩ := h6 t ht
  show V G F _ _ _ 6 [some (.ref (A 0)), some (.int (nI t)), some (.int (nI l))] [.ref (A (13 + 6 * t))] h
  refine V.getf hG hF k_RX3_101 (by decide +kernel) t2.1 rfl ?_
  refine V.run hF [(.iload_n 2, 1, .null)] (pc' := 10) (L' := [some (.ref (A 0)), some (.int (nI t)), some (.int (nI l))]) (st' := [.int (nI l), .ref (A (14 + 6 * t))]) (by decide +kernel) rfl ?_
  refine V.ialdN (j := l) hG hF (by decide +kernel) t2.2.1 (by omega) (by decide) ?_
  exact V.reti hF (by decide +kernel) ⟨⟨t, l, ht, hl, rfl, rfl, rfl⟩, rfl⟩
set_option maxHeartbeats 4000000 in
theorem c_X3_creditorOf (hG : GOk G) (hC : CS h A σ P r) (x y : Int32) : Ct G yX3_creditorOf (.code yX3_creditorOf cX3_creditorOf 3 (some .int)) 8 127 3 18 [.ref (A 0), .int x, .int y] h (fun v h' => (∃ t l, t < gT σ ∧ l < gn σ t ∧ x = nI t ∧ y = nI l ∧ v = some (.int (gC σ t l))) ∧ h' = h) (pxI (okL σ x y) h) := by
  refine Ct.of (by decide +kernel) (Nat.le_of_ble_eq_true rfl) fun F hF hT hN hRm => ?_
  obtain ⟨hI, hT8, hA, h1, h2, h3, h4, h5, h6⟩ := id hC
  refine V.run hF [(.aload_n 0, 1, .null), (.iload_n 1, 1, .null), (.iload_n 2, 1, .null)] (pc' := 3) (L' := [some (.ref (A 0)), some (.int x), some (.int y)]) (st' := [.int y, .int x, .ref (A 0)]) (by decide +kernel) rfl ?_
  refine V.callV (As := [.int x, .int y]) (st := []) hG hF k_RX3_84 (by decide +kernel) (c_X3_linesWith hG hC x y) hA rfl rfl ⟨by rw [hRm]; decide, by rw [hRm]; decide⟩ (Nat.le_of_ble_eq_true rfl) rfl (fun v h1' hp => ?_) (fun E h9 hx => VX.out hF hT ⟨hx.1, hx.2.1, hx.2.2⟩)
  obtain ⟨⟨t, l, ht, hl, rfl, rfl, rfl⟩, he⟩ := hp
  rw [he]
  obtain ⟨t1, t2, t3⟩ := h6 t ht
  show V G F _ _ _ 6 [some (.ref (A 0)), some (.int (nI t)), some (.int (nI l))] [.ref (A (13 + 6 * t))] h
  refine V.getf hG hF k_RX3_146 (by decide +kernel) t2.1 rfl ?_
  refine V.run hF [(.iload_n 2, 1, .null)] (pc' := 10) (L' := [some (.ref (A 0)), some (.int (nI t)), some (.int (nI l))]) (st' := [.int (nI l), .ref (A (15 + 6 * t))]) (by decide +kernel) rfl ?_
  refine V.ialdN (j := l) hG hF (by decide +kernel) t2.2.2.1 (by omega) (by decide) ?_
  exact V.reti hF (by decide +kernel) ⟨⟨t, l, ht, hl, rfl, rfl, rfl⟩, rfl⟩
set_option maxHeartbeats 4000000 in
theorem c_X3_amountOf (hG : GOk G) (hC : CS h A σ P r) (x y : Int32) : Ct G yX3_amountOf (.code yX3_amountOf cX3_amountOf 3 (some .int)) 8 127 3 18 [.ref (A 0), .int x, .int y] h (fun v h' => (∃ t l, t < gT σ ∧ l < gn σ t ∧ x = nI t ∧ y = nI l ∧ v = some (.int (gM σ t l))) ∧ h' = h) (pxI (okL σ x y) h) := by
  refine Ct.of (by decide +kernel) (Nat.le_of_ble_eq_true rfl) fun F hF hT hN hRm => ?_
  obtain ⟨hI, hT8, hA, h1, h2, h3, h4, h5, h6⟩ := id hC
  refine V.run hF [(.aload_n 0, 1, .null), (.iload_n 1, 1, .null), (.iload_n 2, 1, .null)] (pc' := 3) (L' := [some (.ref (A 0)), some (.int x), some (.int y)]) (st' := [.int y, .int x, .ref (A 0)]) (by decide +kernel) rfl ?_
  refine V.callV (As := [.int x, .int y]) (st := []) hG hF k_RX3_84 (by decide +kernel) (c_X3_linesWith hG hC x y) hA rfl rfl ⟨by rw [hRm]; decide, by rw [hRm]; decide⟩ (Nat.le_of_ble_eq_true rfl) rfl (fun v h1' hp => ?_) (fun E h9 hx => VX.out hF hT ⟨hx.1, hx.2.1, hx.2.2⟩)
  obtain ⟨⟨t, l, ht, hl, rfl, rfl, rfl⟩, he⟩ := hp
  rw [he]
  obtain ⟨t1, t2, t3⟩ := h6 t ht
  show V G F _ _ _ 6 [some (.ref (A 0)), some (.int (nI t)), some (.int (nI l))] [.ref (A (13 + 6 * t))] h
  refine V.getf hG hF k_RX3_88 (by decide +kernel) t2.1 rfl ?_
  refine V.run hF [(.iload_n 2, 1, .null)] (pc' := 10) (L' := [some (.ref (A 0)), some (.int (nI t)), some (.int (nI l))]) (st' := [.int (nI l), .ref (A (16 + 6 * t))]) (by decide +kernel) rfl ?_
  refine V.ialdN (j := l) hG hF (by decide +kernel) t2.2.2.2.1 (by omega) (by decide) ?_
  exact V.reti hF (by decide +kernel) ⟨⟨t, l, ht, hl, rfl, rfl, rfl⟩, rfl⟩
set_option maxHeartbeats 4000000 in
theorem c_X3_isWitnessed (hG : GOk G) (hC : CS h A σ P r) (x y : Int32) : Ct G yX3_isWitnessed (.code yX3_isWitnessed cX3_isWitnessed 3 (some .boolean)) 8 127 3 18 [.ref (A 0), .int x, .int y] h (fun v h' => (∃ t l, t < gT σ ∧ l < gn σ t ∧ x = nI t ∧ y = nI l ∧ v = some (.int (tf (inP (gW σ t l) ∧ ¬ gth σ (gW σ t l).toNatClampNeg = 0)))) ∧ h' = h) (pxI (okL σ x y) h) := by
  refine Ct.of (by decide +kernel) (Nat.le_of_ble_eq_true rfl) fun F hF hT hN hRm => ?_
  obtain ⟨hI, hT8, hA, h1, h2, h3, h4, h5, h6⟩ := id hC
  refine V.run hF [(.aload_n 0, 1, .null), (.aload_n 0, 1, .null), (.iload_n 1, 1, .null), (.iload_n 2, 1, .null)] (pc' := 4) (L' := [some (.ref (A 0)), some (.int x), some (.int y)]) (st' := [.int y, .int x, .ref (A 0), .ref (A 0)]) (by decide +kernel) rfl ?_
  refine V.callV (As := [.int x, .int y]) (st := [.ref (A 0)]) hG hF k_RX3_84 (by decide +kernel) (c_X3_linesWith hG hC x y) hA rfl rfl ⟨by rw [hRm]; decide, by rw [hRm]; decide⟩ (Nat.le_of_ble_eq_true rfl) rfl (fun v h1' hp => ?_) (fun E h9 hx => VX.out hF hT ⟨hx.1, hx.2.1, hx.2.2⟩)
  obtain ⟨⟨t, l, ht, hl, rfl, rfl, rfl⟩, he⟩ := hp
  rw [he]
  obtain ⟨t1, t2, t3⟩ := h6 t ht
  show V G F _ _ _ 7 [some (.ref (A 0)), some (.int (nI t)), some (.int (nI l))] [.ref (A (13 + 6 * t)), .ref (A 0)] h
  refine V.getf hG hF k_RX3_96 (by decide +kernel) t2.1 rfl ?_
  refine V.run hF [(.iload_n 2, 1, .null)] (pc' := 11) (L' := [some (.ref (A 0)), some (.int (nI t)), some (.int (nI l))]) (st' := [.int (nI l), .ref (A (17 + 6 * t)), .ref (A 0)]) (by decide +kernel) rfl ?_
  refine V.ialdN (j := l) hG hF (by decide +kernel) t2.2.2.2.2 (by omega) (by decide) ?_
  refine V.callV (As := [.int ((gW σ t) l)]) (st := []) hG hF k_RX3_74 (by decide +kernel) (c_X3_isPresent hG hC (gW σ t l)) hA rfl rfl ⟨by rw [hRm]; decide, by rw [hRm]; decide⟩ (Nat.le_of_ble_eq_true rfl) rfl (fun v h_2 gp2 => ?_) (fun E h9 hx => hx.elim)
  obtain ⟨rfl, he_gp2⟩ := gp2
  rw [he_gp2]
  show V G F _ _ _ 15 [some (.ref (A 0)), some (.int (nI t)), some (.int (nI l))] [.int (tf (inP (gW σ t l) ∧ ¬ gth σ (gW σ t l).toNatClampNeg = 0))] h
  exact V.retz hF (by decide +kernel) (nz (tf01 _)) ⟨⟨t, l, ht, hl, rfl, rfl, rfl⟩, rfl⟩
set_option maxHeartbeats 4000000 in
theorem c_X3_has (hG : GOk G) (hC : CS h A σ P r) (x : Int32) : Ct G yX3_has (.code yX3_has cX3_has 2 (some .int)) 7 102 1 6 [.ref (A 0), .int x] h (fun v h' => (∃ p, p < 8 ∧ x = nI p ∧ v = some (.int (balT σ (nI p) (gT σ)))) ∧ h' = h) (pxI (inP x) h) := by
  refine Ct.of (by decide +kernel) (Nat.le_of_ble_eq_true rfl) fun F hF hT hN hRm => ?_
  obtain ⟨hI, hT8, hA, h1, h2, h3, h4, h5, h6⟩ := id hC
  refine V.run hF [(.iload_n 1, 1, .null)] (pc' := 1) (L' := [some (.ref (A 0)), some (.int x)]) (st' := [.int x]) (by decide +kernel) rfl ?_
  refine V.callS (As := [.int x]) (st := []) hG hF k_RX3_60 (by decide +kernel) (c_X3_checkPerson hG x) rfl ⟨by rw [hRm]; decide, by rw [hRm]; decide⟩ (Nat.le_of_ble_eq_true rfl) rfl (fun v h1' hp => ?_) (fun E h9 hx => VX.out hF hT ⟨hx.1, hx.2.1, hx.2.2⟩)
  obtain ⟨hv, hx, he⟩ := hp
  rw [he, hv]
  show V G F _ _ _ 4 [some (.ref (A 0)), some (.int x)] [] h
  obtain ⟨p, hp8, rfl⟩ := inP_of hx
  refine V.run hF [(.aload_n 0, 1, .null), (.iload_n 1, 1, .null)] (pc' := 6) (L' := [some (.ref (A 0)), some (.int (nI p))]) (st' := [.int (nI p), .ref (A 0)]) (by decide +kernel) rfl ?_
  refine V.callV (As := [.int (nI p)]) (st := []) hG hF k_RX3_149 (by decide +kernel) (c_X3_balanceOf hG hC (nI p)) hA rfl rfl ⟨by rw [hRm]; decide, by rw [hRm]; decide⟩ (Nat.le_of_ble_eq_true rfl) rfl (fun v h_2 gp2 => ?_) (fun E h9 hx => hx.elim)
  obtain ⟨rfl, he_gp2⟩ := gp2
  rw [he_gp2]
  show V G F _ _ _ 9 [some (.ref (A 0)), some (.int (nI p))] [.int (balT σ (nI p) (gT σ))] h
  exact V.reti hF (by decide +kernel) ⟨⟨p, hp8, rfl, rfl⟩, rfl⟩
set_option maxHeartbeats 4000000 in
theorem c_X3_hasOn (hG : GOk G) (hC : CS h A σ P r) (x y : Int32) : Ct G yX3_hasOn (.code yX3_hasOn cX3_hasOn 4 (some .int)) 7 104 2 12 [.ref (A 0), .int x, .int y] h (fun v h' => (∃ t p, t < gT σ ∧ p < 8 ∧ x = nI t ∧ y = nI p ∧ v = some (.int (bal (gDD σ t) (gC σ t) (gM σ t) (nI p) (gn σ t)))) ∧ h' = h) (pxI (okT σ x ∧ inP y) h) := by
  refine Ct.of (by decide +kernel) (Nat.le_of_ble_eq_true rfl) fun F hF hT hN hRm => ?_
  obtain ⟨hI, hT8, hA, h1, h2, h3, h4, h5, h6⟩ := id hC
  refine V.run hF [(.aload_n 0, 1, .null), (.iload_n 1, 1, .null)] (pc' := 2) (L' := [some (.ref (A 0)), some (.int x), some (.int y), none]) (st' := [.int x, .ref (A 0)]) (by decide +kernel) rfl ?_
  refine V.callV (As := [.int x]) (st := []) hG hF k_RX3_52 (by decide +kernel) (c_X3_tabletAt hG hC x) hA rfl rfl ⟨by rw [hRm]; decide, by rw [hRm]; decide⟩ (Nat.le_of_ble_eq_true rfl) rfl (fun v h1' hp => ?_) (fun E h9 hx => VX.out hF hT ⟨hx.1, fun q => okT_no hT8 hx.2.1 q.1, hx.2.2⟩)
  obtain ⟨⟨t, ht, rfl, rfl⟩, he⟩ := hp
  rw [he]
  obtain ⟨t1, t2, t3⟩ := h6 t ht
  show V G F _ _ _ 5 [some (.ref (A 0)), some (.int (nI t)), some (.int y), none] [.ref (A (12 + 6 * t))] h
  refine V.getf hG hF k_RX3_56 (by decide +kernel) t1 rfl ?_
  refine V.run hF [(.astore_n 3, 1, .null), (.iload_n 2, 1, .null)] (pc' := 10) (L' := [some (.ref (A 0)), some (.int (nI t)), some (.int y), some (.ref (A (13 + 6 * t)))]) (st' := [.int y]) (by decide +kernel) rfl ?_
  refine V.callS (As := [.int y]) (st := []) hG hF k_RX3_60 (by decide +kernel) (c_X3_checkPerson hG y) rfl ⟨by rw [hRm]; decide, by rw [hRm]; decide⟩ (Nat.le_of_ble_eq_true rfl) rfl (fun v' h1'' hp => ?_) (fun E h9 hx => VX.out hF hT ⟨hx.1, fun q => hx.2.1 q.2, hx.2.2⟩)
  obtain ⟨hv, hx, he⟩ := hp
  rw [he, hv]
  show V G F _ _ _ 13 [some (.ref (A 0)), some (.int (nI t)), some (.int y), some (.ref (A (13 + 6 * t)))] [] h
  obtain ⟨p, hp8, rfl⟩ := inP_of hx
  refine V.run hF [(.aload_n 3, 1, .null), (.iload_n 2, 1, .null)] (pc' := 15) (L' := [some (.ref (A 0)), some (.int (nI t)), some (.int (nI p)), some (.ref (A (13 + 6 * t)))]) (st' := [.int (nI p), .ref (A (13 + 6 * t))]) (by decide +kernel) rfl ?_
  refine V.callVN (As := [.int (nI p)]) (st := []) hG hF k_RX3_153 (by decide +kernel) (c_X0_balanceOf hG t2 t3 (nI p)) t2.1 rfl rfl ⟨by rw [hRm]; decide, by rw [hRm]; decide⟩ (Nat.le_of_ble_eq_true rfl) rfl (fun v h_3 gp3 => ?_)
  obtain ⟨rfl, he_gp3⟩ := gp3
  rw [he_gp3]
  show V G F _ _ _ 18 [some (.ref (A 0)), some (.int (nI t)), some (.int (nI p)), some (.ref (A (13 + 6 * t)))] [.int (bal (gDD σ t) (gC σ t) (gM σ t) (nI p) (gn σ t))] h
  exact V.reti hF (by decide +kernel) ⟨⟨t, p, ht, hp8, rfl, rfl, rfl⟩, rfl⟩
set_option maxHeartbeats 4000000 in
theorem c_X3_linesSmoothed (hG : GOk G) (hC : CS h A σ P r) (x : Int32) : Ct G yX3_linesSmoothed (.code yX3_linesSmoothed cX3_linesSmoothed 2 (some .int)) 7 104 2 12 [.ref (A 0), .int x] h (fun v h' => ∃ t, t < gT σ ∧ x = nI t ∧ is_s A σ r h (lf σ t) v h') (pxI (okT σ x) h) := by
  refine Ct.of (by decide +kernel) (Nat.le_of_ble_eq_true rfl) fun F hF hT hN hRm => ?_
  obtain ⟨hI, hT8, hA, h1, h2, h3, h4, h5, h6⟩ := id hC
  refine V.run hF [(.aload_n 0, 1, .null), (.aload_n 0, 1, .null), (.iload_n 1, 1, .null)] (pc' := 3) (L' := [some (.ref (A 0)), some (.int x)]) (st' := [.int x, .ref (A 0), .ref (A 0)]) (by decide +kernel) rfl ?_
  refine V.callV (As := [.int x]) (st := [.ref (A 0)]) hG hF k_RX3_52 (by decide +kernel) (c_X3_tabletAt hG hC x) hA rfl rfl ⟨by rw [hRm]; decide, by rw [hRm]; decide⟩ (Nat.le_of_ble_eq_true rfl) rfl (fun v h1' hp => ?_) (fun E h9 hx => VX.out hF hT ⟨hx.1, okT_no hT8 hx.2.1, hx.2.2⟩)
  obtain ⟨⟨t, ht, rfl, rfl⟩, he⟩ := hp
  rw [he]
  obtain ⟨t1, t2, t3⟩ := h6 t ht
  show V G F _ _ _ 6 [some (.ref (A 0)), some (.int (nI t))] [.ref (A (12 + 6 * t)), .ref (A 0)] h
  refine V.callV (As := [.ref (A (12 + 6 * t))]) (st := []) hG hF k_RX3_173 (by decide +kernel) (c_X3_linesLeftOn hG hC ht) hA rfl rfl ⟨by rw [hRm]; decide, by rw [hRm]; decide⟩ (Nat.le_of_ble_eq_true rfl) rfl (fun v h_2 gp2 => ?_) (fun E h9 hx => hx.elim)
  obtain ⟨rfl, P', hC2, hk⟩ := gp2
  show V G F _ _ _ 9 [some (.ref (A 0)), some (.int (nI t))] [.int (lf σ t)] h_2
  exact V.reti hF (by decide +kernel) ⟨t, ht, rfl, rfl, P', hC2, hk⟩
set_option maxHeartbeats 4000000 in
theorem c_X3_yearsUntilMelted (hG : GOk G) (hC : CS h A σ P r) (x : Int32) (hy : gy σ < 2 ^ 30) : Ct G yX3_yearsUntilMelted (.code yX3_yearsUntilMelted cX3_yearsUntilMelted 2 (some .int)) 7 104 2 12 [.ref (A 0), .int x] h (fun v h' => (∃ t, t < gT σ ∧ x = nI t ∧ v = some (.int (ytm σ t 10 0))) ∧ h' = h) (pxI (okT σ x) h) := by
  refine Ct.of (by decide +kernel) (Nat.le_of_ble_eq_true rfl) fun F hF hT hN hRm => ?_
  obtain ⟨hI, hT8, hA, h1, h2, h3, h4, h5, h6⟩ := id hC
  refine V.run hF [(.aload_n 0, 1, .null), (.aload_n 0, 1, .null), (.iload_n 1, 1, .null)] (pc' := 3) (L' := [some (.ref (A 0)), some (.int x)]) (st' := [.int x, .ref (A 0), .ref (A 0)]) (by decide +kernel) rfl ?_
  refine V.callV (As := [.int x]) (st := [.ref (A 0)]) hG hF k_RX3_52 (by decide +kernel) (c_X3_tabletAt hG hC x) hA rfl rfl ⟨by rw [hRm]; decide, by rw [hRm]; decide⟩ (Nat.le_of_ble_eq_true rfl) rfl (fun v h1' hp => ?_) (fun E h9 hx => VX.out hF hT ⟨hx.1, okT_no hT8 hx.2.1, hx.2.2⟩)
  obtain ⟨⟨t, ht, rfl, rfl⟩, he⟩ := hp
  rw [he]
  obtain ⟨t1, t2, t3⟩ := h6 t ht
  show V G F _ _ _ 6 [some (.ref (A 0)), some (.int (nI t))] [.ref (A (12 + 6 * t)), .ref (A 0)] h
  refine V.callV (As := [.ref (A (12 + 6 * t))]) (st := []) hG hF k_RX3_183 (by decide +kernel) (c_X3_yearsLeftOf hG hC hy ht) hA rfl rfl ⟨by rw [hRm]; decide, by rw [hRm]; decide⟩ (Nat.le_of_ble_eq_true rfl) rfl (fun v h_2 gp2 => ?_) (fun E h9 hx => hx.elim)
  obtain ⟨rfl, he_gp2⟩ := gp2
  rw [he_gp2]
  show V G F _ _ _ 9 [some (.ref (A 0)), some (.int (nI t))] [.int (ytm σ t 10 0)] h
  exact V.reti hF (by decide +kernel) ⟨⟨t, ht, rfl, rfl⟩, rfl⟩
abbrev inH (x : Int32) : Prop := ¬ x < 0 ∧ x < 10
abbrev inE (x : Int32) : Prop := ¬ x < 0 ∧ x ≤ 9
theorem inH_of {x : Int32} (hx : inH x) : ∃ p : Nat, p < 10 ∧ x = nI p := by
  rcases pk_ix x (n := 10) (by decide) with q | q | ⟨j, hj, e⟩
  · exact absurd q hx.1
  · exact absurd hx.2 (Int32.not_lt.mpr q)
  · exact ⟨j, hj, e⟩
set_option maxHeartbeats 4000000 in
theorem c_X3_setHeat (hG : GOk G) (hC : CS h A σ P r) (x y : Int32) : Ct G yX3_setHeat (.code yX3_setHeat cX3_setHeat 4 (some .int)) 6 82 1 6 [.ref (A 0), .int x, .int y] h (fun v h' => ∃ k, k < 10 ∧ x = nI k ∧ inE y ∧ v = some (.int (ghe σ k)) ∧ CS h' A (sHe σ (upd (ghe σ) k y)) P r ∧ kpC h h' A (12 + 6 * gT σ)) (fun E h' => ((E = eI ∧ ¬ inH x) ∨ (E = eA ∧ inH x ∧ ¬ inE y)) ∧ h' = h) := by
  refine Ct.of (by decide +kernel) (Nat.le_of_ble_eq_true rfl) fun F hF hT hN hRm => ?_
  obtain ⟨hI, hT8, hA, h1, h2, h3, h4, h5, h6⟩ := id hC
  refine V.run hF [(.iload_n 1, 1, .null)] (pc' := 1) (L' := [some (.ref (A 0)), some (.int x), some (.int y), none]) (st' := [.int x]) (by decide +kernel) rfl ?_
  refine V.if_lt hF (off := 9) (tgt := 10) (by decide +kernel) (by decide) (fun c1 => ?_) (fun c1 => ?_)
  · skip
    exact V.throwS hG hF hT kt_RX3_128 (by decide +kernel) (by decide +kernel) (by decide +kernel) (by decide +kernel) (by decide +kernel) ⟨by rw [hRm]; decide, by rw [hRm]; decide⟩ ⟨Or.inl ⟨rfl, fun q => q.1 c1⟩, rfl⟩
  · skip
    refine V.run hF [(.iload_n 1, 1, .null), (.bipush 10, 2, .int (nI 10))] (pc' := 7) (L' := [some (.ref (A 0)), some (.int x), some (.int y), none]) (st' := [.int (nI 10), .int x]) (by decide +kernel) rfl ?_
    refine V.icmp_lt hF (off := 13) (tgt := 20) (by decide +kernel) (by decide) (fun c2 => ?_) (fun c2 => ?_)
    · skip
      refine V.run hF [(.iload_n 2, 1, .null)] (pc' := 21) (L' := [some (.ref (A 0)), some (.int x), some (.int y), none]) (st' := [.int y]) (by decide +kernel) rfl ?_
      refine V.if_lt hF (off := 9) (tgt := 30) (by decide +kernel) (by decide) (fun c3 => ?_) (fun c3 => ?_)
      · skip
        exact V.throwS hG hF hT kt_RX3_131 (by decide +kernel) (by decide +kernel) (by decide +kernel) (by decide +kernel) (by decide +kernel) ⟨by rw [hRm]; decide, by rw [hRm]; decide⟩ ⟨Or.inr ⟨rfl, ⟨c1, c2⟩, fun q => q.1 c3⟩, rfl⟩
      · skip
        refine V.run hF [(.iload_n 2, 1, .null), (.bipush 9, 2, .int (nI 9))] (pc' := 27) (L' := [some (.ref (A 0)), some (.int x), some (.int y), none]) (st' := [.int (nI 9), .int y]) (by decide +kernel) rfl ?_
        refine V.icmp_le hF (off := 13) (tgt := 40) (by decide +kernel) (by decide) (fun c4 => ?_) (fun c4 => ?_)
        · obtain ⟨k, hk, rfl⟩ := inH_of ⟨c1, c2⟩
          refine V.run hF [(.aload_n 0, 1, .null)] (pc' := 41) (L' := [some (.ref (A 0)), some (.int (nI k)), some (.int y), none]) (st' := [.ref (A 0)]) (by decide +kernel) rfl ?_
          refine V.getf hG hF k_RX3_19 (by decide +kernel) hA rfl ?_
          refine V.run hF [(.iload_n 1, 1, .null)] (pc' := 45) (L' := [some (.ref (A 0)), some (.int (nI k)), some (.int y), none]) (st' := [.int (nI k), .ref (A 3)]) (by decide +kernel) rfl ?_
          refine V.ialdN (j := k) hG hF (by decide +kernel) h3 (by omega) (by decide) ?_
          refine V.run hF [(.istore_n 3, 1, .null), (.aload_n 0, 1, .null)] (pc' := 48) (L' := [some (.ref (A 0)), some (.int (nI k)), some (.int y), some (.int ((ghe σ) k))]) (st' := [.ref (A 0)]) (by decide +kernel) rfl ?_
          refine V.getf hG hF k_RX3_19 (by decide +kernel) hA rfl ?_
          refine V.run hF [(.iload_n 1, 1, .null), (.iload_n 2, 1, .null)] (pc' := 53) (L' := [some (.ref (A 0)), some (.int (nI k)), some (.int y), some (.int ((ghe σ) k))]) (st' := [.int y, .int (nI k), .ref (A 3)]) (by decide +kernel) rfl ?_
          refine V.iastN (j := k) hG hF (by decide +kernel) h3 (by omega) (by decide) ?_
          obtain ⟨h_1, gh1⟩ : ∃ z : Hp, z = hset h (A 3) (.inl (0, 10, .inl (upd (ghe σ) k y))) := ⟨_, rfl⟩
          refine V.hp gh1 ?_
          have gk1 : ∀ q : Nat, q ≠ (A 3) → h_1 q = h q := fun q hq => by rw [gh1]; exact hset_ne hq
          have gs1 : h_1 (A 3) = some (.inl (0, 10, .inl (upd (ghe σ) k y))) := by rw [gh1]; exact hset_eq
          refine V.run hF [(.iload_n 3, 1, .null)] (pc' := 55) (L' := [some (.ref (A 0)), some (.int (nI k)), some (.int y), some (.int ((ghe σ) k))]) (st' := [.int ((ghe σ) k)]) (by decide +kernel) rfl ?_
          have hC2 := hC.he (he := upd (ghe σ) k y) gs1 (fun q hq => gk1 q hq)
          exact V.reti hF (by decide +kernel) ⟨k, hk, rfl, ⟨c3, c4⟩, rfl, hC2, kpC.one (by omega) (fun q hq => gk1 q hq)⟩
        · skip
          exact V.throwS hG hF hT kt_RX3_131 (by decide +kernel) (by decide +kernel) (by decide +kernel) (by decide +kernel) (by decide +kernel) ⟨by rw [hRm]; decide, by rw [hRm]; decide⟩ ⟨Or.inr ⟨rfl, ⟨c1, c2⟩, fun q => c4 q.2⟩, rfl⟩
    · skip
      exact V.throwS hG hF hT kt_RX3_128 (by decide +kernel) (by decide +kernel) (by decide +kernel) (by decide +kernel) (by decide +kernel) ⟨by rw [hRm]; decide, by rw [hRm]; decide⟩ ⟨Or.inl ⟨rfl, fun q => c2 q.2⟩, rfl⟩
end Oq