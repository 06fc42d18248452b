/-! ===== TallyWax: digest itself ===== -/
def dg1 (σ : Sg) : Int64 := mx (mx (mx (mx (mx (mx 2357 (nI (gy σ))) (nI (gT σ))) (gLn σ (gT σ))) (gme σ)) (gde σ)) (gTo σ (gT σ))
abbrev rch (σ : Sg) : Int32 := nI (pmax (fun p => balT σ (nI p) (gT σ)) 7)
abbrev rdd (σ : Sg) : Int32 := rnd (whV 8 (R0 σ)) 8 0
def dg2 (σ : Sg) : Int64 := mx (mx (mx (mx (dg1 σ) (rch σ)) (tf (¬ rdd σ = 0))) (bst σ 8).1) (gMI σ 5 (gT σ))
def mPs (σ : Sg) (d : Int64) : Nat → Int64
  | 0 => d
  | p + 1 => mP σ p (mPs σ d p)
def mTs (σ : Sg) (d : Int64) : Nat → Int64
  | 0 => d
  | t + 1 => mT σ t (mTs σ d t)
def dgst (σ : Sg) : Int64 := mTs σ (mPs σ (dg2 σ) 8) (gT σ)
section Ow
variable {G : Gt} {h : Hp} {A : Nat → Nat} {σ : Sg} {P : PS} {r : Nat → Int32}
set_option maxHeartbeats 8000000 in
theorem c_X3_digest (hG : GOk G) (hC : CS h A σ P r) (hz : ∀ p, p < 8 → b01 (gth σ p)) (hz2 : ∀ t, t < gT σ → b01 (gce σ t)) (hy : gy σ < 2 ^ 29) : Ct G yX3_digest (.code yX3_digest cX3_digest 7 (some .long)) 9 155 161 966 [.ref (A 0)] h (is_d A σ h (dgst σ)) pxN := by
  refine Ct.of (by decide +kernel) (Nat.le_of_ble_eq_true rfl) fun F hF hT hN hRm => ?_
  have hT8 := hC.2.1
  refine V.ldc2 hG hF tw_205 (by decide +kernel) ?_
  refine V.run hF [(.lstore_n 1, 1, .null), (.lload_n 1, 1, .null), (.aload_n 0, 1, .null)] (pc' := 6) (L' := [some (.ref (A 0)), some (.long 2357), none, none, none, none, none]) (st' := [.ref (A 0), .long 2357]) (by decide +kernel) rfl ?_
  refine V.getf hG hF k_RX3_143 (by decide +kernel) hC.2.2.1 rfl ?_
  refine V.run hF [(.i2l, 1, .null)] (pc' := 10) (L' := [some (.ref (A 0)), some (.long 2357), none, none, none, none, none]) (st' := [.long (Int32.toInt64 (nI (gy σ))), .long 2357]) (by decide +kernel) rfl ?_
  refine V.callS (As := [.long 2357, .long (Int32.toInt64 (nI (gy σ)))]) (st := []) hG hF k_RX3_193 (by decide +kernel) (c_X3_mixed hG 2357 (nI (gy σ)).toInt64) rfl ⟨by rw [hRm]; decide, by rw [hRm]; decide⟩ (Nat.le_of_ble_eq_true rfl) rfl (fun v h_1 gp1 => ?_) (fun E h9 hx => hx.elim)
  obtain ⟨rfl, he_gp1⟩ := gp1
  rw [he_gp1]
  show V G F _ _ _ 13 [some (.ref (A 0)), some (.long 2357), none, none, none, none, none] [.long (mx 2357 (nI (gy σ)))] h
  obtain ⟨d1, hd1⟩ : ∃ y : Int64, y = mx 2357 (nI (gy σ)) := ⟨_, rfl⟩
  rw [← hd1]
  refine V.run hF [(.lstore_n 1, 1, .null), (.lload_n 1, 1, .null), (.aload_n 0, 1, .null)] (pc' := 16) (L' := [some (.ref (A 0)), some (.long d1), none, none, none, none, none]) (st' := [.ref (A 0), .long d1]) (by decide +kernel) rfl ?_
  refine V.getf hG hF k_RX3_40 (by decide +kernel) hC.2.2.1 rfl ?_
  refine V.run hF [(.i2l, 1, .null)] (pc' := 20) (L' := [some (.ref (A 0)), some (.long d1), none, none, none, none, none]) (st' := [.long (Int32.toInt64 (nI (gT σ))), .long d1]) (by decide +kernel) rfl ?_
  refine V.callS (As := [.long d1, .long (Int32.toInt64 (nI (gT σ)))]) (st := []) hG hF k_RX3_193 (by decide +kernel) (c_X3_mixed hG d1 (nI (gT σ)).toInt64) rfl ⟨by rw [hRm]; decide, by rw [hRm]; decide⟩ (Nat.le_of_ble_eq_true rfl) rfl (fun v h_2 gp2 => ?_) (fun E h9 hx => hx.elim)
  obtain ⟨rfl, he_gp2⟩ := gp2
  rw [he_gp2]
  show V G F _ _ _ 23 [some (.ref (A 0)), some (.long d1), none, none, none, none, none] [.long (mx d1 (nI (gT σ)))] h
  obtain ⟨d2, hd2⟩ : ∃ y : Int64, y = mx d1 (nI (gT σ)) := ⟨_, rfl⟩
  rw [← hd2]
  refine V.run hF [(.lstore_n 1, 1, .null), (.lload_n 1, 1, .null), (.aload_n 0, 1, .null)] (pc' := 26) (L' := [some (.ref (A 0)), some (.long d2), none, none, none, none, none]) (st' := [.ref (A 0), .long d2]) (by decide +kernel) rfl ?_
  refine V.callV (As := []) (st := [.long d2]) hG hF k_RX3_186 (by decide +kernel) (c_X3_lines hG hC) hC.2.2.1 rfl rfl ⟨by rw [hRm]; decide, by rw [hRm]; decide⟩ (Nat.le_of_ble_eq_true rfl) rfl (fun v h_3 gp3 => ?_) (fun E h9 hx => hx.elim)
  obtain ⟨rfl, he_gp3⟩ := gp3
  rw [he_gp3]
  show V G F _ _ _ 29 [some (.ref (A 0)), some (.long d2), none, none, none, none, none] [.int (gLn σ (gT σ)), .long d2] h
  refine V.run hF [(.i2l, 1, .null)] (pc' := 30) (L' := [some (.ref (A 0)), some (.long d2), none, none, none, none, none]) (st' := [.long (Int32.toInt64 (gLn σ (gT σ))), .long d2]) (by decide +kernel) rfl ?_
  refine V.callS (As := [.long d2, .long (Int32.toInt64 (gLn σ (gT σ)))]) (st := []) hG hF k_RX3_193 (by decide +kernel) (c_X3_mixed hG d2 (gLn σ (gT σ)).toInt64) rfl ⟨by rw [hRm]; decide, by rw [hRm]; decide⟩ (Nat.le_of_ble_eq_true rfl) rfl (fun v h_4 gp4 => ?_) (fun E h9 hx => hx.elim)
  obtain ⟨rfl, he_gp4⟩ := gp4
  rw [he_gp4]
  show V G F _ _ _ 33 [some (.ref (A 0)), some (.long d2), none, none, none, none, none] [.long (mx d2 (gLn σ (gT σ)))] h
  obtain ⟨d3, hd3⟩ : ∃ y : Int64, y = mx d2 (gLn σ (gT σ)) := ⟨_, rfl⟩
  rw [← hd3]
  refine V.run hF [(.lstore_n 1, 1, .null), (.lload_n 1, 1, .null), (.aload_n 0, 1, .null)] (pc' := 36) (L' := [some (.ref (A 0)), some (.long d3), none, none, none, none, none]) (st' := [.ref (A 0), .long d3]) (by decide +kernel) rfl ?_
  refine V.getf hG hF k_RX3_140 (by decide +kernel) hC.2.2.1 rfl ?_
  refine V.run hF [(.i2l, 1, .null)] (pc' := 40) (L' := [some (.ref (A 0)), some (.long d3), none, none, none, none, none]) (st' := [.long (Int32.toInt64 (gme σ)), .long d3]) (by decide +kernel) rfl ?_
  refine V.callS (As := [.long d3, .long (Int32.toInt64 (gme σ))]) (st := []) hG hF k_RX3_193 (by decide +kernel) (c_X3_mixed hG d3 (gme σ).toInt64) rfl ⟨by rw [hRm]; decide, by rw [hRm]; decide⟩ (Nat.le_of_ble_eq_true rfl) rfl (fun v h_5 gp5 => ?_) (fun E h9 hx => hx.elim)
  obtain ⟨rfl, he_gp5⟩ := gp5
  rw [he_gp5]
  show V G F _ _ _ 43 [some (.ref (A 0)), some (.long d3), none, none, none, none, none] [.long (mx d3 (gme σ))] h
  obtain ⟨d4, hd4⟩ : ∃ y : Int64, y = mx d3 (gme σ) := ⟨_, rfl⟩
  rw [← hd4]
  refine V.run hF [(.lstore_n 1, 1, .null), (.lload_n 1, 1, .null), (.aload_n 0, 1, .null)] (pc' := 46) (L' := [some (.ref (A 0)), some (.long d4), none, none, none, none, none]) (st' := [.ref (A 0), .long d4]) (by decide +kernel) rfl ?_
  refine V.getf hG hF k_RX3_106 (by decide +kernel) hC.2.2.1 rfl ?_
  refine V.run hF [(.i2l, 1, .null)] (pc' := 50) (L' := [some (.ref (A 0)), some (.long d4), none, none, none, none, none]) (st' := [.long (Int32.toInt64 (gde σ)), .long d4]) (by decide +kernel) rfl ?_
  refine V.callS (As := [.long d4, .long (Int32.toInt64 (gde σ))]) (st := []) hG hF k_RX3_193 (by decide +kernel) (c_X3_mixed hG d4 (gde σ).toInt64) rfl ⟨by rw [hRm]; decide, by rw [hRm]; decide⟩ (Nat.le_of_ble_eq_true rfl) rfl (fun v h_6 gp6 => ?_) (fun E h9 hx => hx.elim)
  obtain ⟨rfl, he_gp6⟩ := gp6
  rw [he_gp6]
  show V G F _ _ _ 53 [some (.ref (A 0)), some (.long d4), none, none, none, none, none] [.long (mx d4 (gde σ))] h
  obtain ⟨d5, hd5⟩ : ∃ y : Int64, y = mx d4 (gde σ) := ⟨_, rfl⟩
  rw [← hd5]
  refine V.run hF [(.lstore_n 1, 1, .null), (.lload_n 1, 1, .null), (.aload_n 0, 1, .null)] (pc' := 56) (L' := [some (.ref (A 0)), some (.long d5), none, none, none, none, none]) (st' := [.ref (A 0), .long d5]) (by decide +kernel) rfl ?_
  refine V.callV (As := []) (st := [.long d5]) hG hF k_RX3_188 (by decide +kernel) (c_X3_total hG hC) hC.2.2.1 rfl rfl ⟨by rw [hRm]; decide, by rw [hRm]; decide⟩ (Nat.le_of_ble_eq_true rfl) rfl (fun v h_7 gp7 => ?_) (fun E h9 hx => hx.elim)
  obtain ⟨rfl, he_gp7⟩ := gp7
  rw [he_gp7]
  show V G F _ _ _ 59 [some (.ref (A 0)), some (.long d5), none, none, none, none, none] [.int (gTo σ (gT σ)), .long d5] h
  refine V.run hF [(.i2l, 1, .null)] (pc' := 60) (L' := [some (.ref (A 0)), some (.long d5), none, none, none, none, none]) (st' := [.long (Int32.toInt64 (gTo σ (gT σ))), .long d5]) (by decide +kernel) rfl ?_
  refine V.callS (As := [.long d5, .long (Int32.toInt64 (gTo σ (gT σ)))]) (st := []) hG hF k_RX3_193 (by decide +kernel) (c_X3_mixed hG d5 (gTo σ (gT σ)).toInt64) rfl ⟨by rw [hRm]; decide, by rw [hRm]; decide⟩ (Nat.le_of_ble_eq_true rfl) rfl (fun v h_8 gp8 => ?_) (fun E h9 hx => hx.elim)
  obtain ⟨rfl, he_gp8⟩ := gp8
  rw [he_gp8]
  show V G F _ _ _ 63 [some (.ref (A 0)), some (.long d5), none, none, none, none, none] [.long (mx d5 (gTo σ (gT σ)))] h
  obtain ⟨d6, hd6⟩ : ∃ y : Int64, y = mx d5 (gTo σ (gT σ)) := ⟨_, rfl⟩
  rw [← hd6]
  have e6 : d6 = dg1 σ := by rw [hd6, hd5, hd4, hd3, hd2, hd1, dg1]
  refine V.run hF [(.lstore_n 1, 1, .null), (.lload_n 1, 1, .null), (.aload_n 0, 1, .null)] (pc' := 66) (L' := [some (.ref (A 0)), some (.long d6), none, none, none, none, none]) (st' := [.ref (A 0), .long d6]) (by decide +kernel) rfl ?_
  refine V.callV (As := []) (st := [.long d6]) hG hF k_RX3_197 (by decide +kernel) (c_X3_richest hG hC) hC.2.2.1 rfl rfl ⟨by rw [hRm]; decide, by rw [hRm]; decide⟩ (Nat.le_of_ble_eq_true rfl) rfl (fun v h_9 gp9 => ?_) (fun E h9 hx => hx.elim)
  obtain ⟨rfl, he_gp9⟩ := gp9
  rw [he_gp9]
  show V G F _ _ _ 69 [some (.ref (A 0)), some (.long d6), none, none, none, none, none] [.int (rch σ), .long d6] h
  refine V.run hF [(.i2l, 1, .null)] (pc' := 70) (L' := [some (.ref (A 0)), some (.long d6), none, none, none, none, none]) (st' := [.long (Int32.toInt64 (rch σ)), .long d6]) (by decide +kernel) rfl ?_
  refine V.callS (As := [.long d6, .long (Int32.toInt64 (rch σ))]) (st := []) hG hF k_RX3_193 (by decide +kernel) (c_X3_mixed hG d6 (rch σ).toInt64) rfl ⟨by rw [hRm]; decide, by rw [hRm]; decide⟩ (Nat.le_of_ble_eq_true rfl) rfl (fun v h_10 gp10 => ?_) (fun E h9 hx => hx.elim)
  obtain ⟨rfl, he_gp10⟩ := gp10
  rw [he_gp10]
  show V G F _ _ _ 73 [some (.ref (A 0)), some (.long d6), none, none, none, none, none] [.long (mx d6 (rch σ))] h
  obtain ⟨d7, hd7⟩ : ∃ y : Int64, y = mx d6 (rch σ) := ⟨_, rfl⟩
  rw [← hd7]
  refine V.run hF [(.lstore_n 1, 1, .null), (.lload_n 1, 1, .null), (.aload_n 0, 1, .null)] (pc' := 76) (L' := [some (.ref (A 0)), some (.long d7), none, none, none, none, none]) (st' := [.ref (A 0), .long d7]) (by decide +kernel) rfl ?_
  refine V.callV (As := []) (st := [.long d7]) hG hF k_RX3_200 (by decide +kernel) (c_X3_isRound hG hC) hC.2.2.1 rfl rfl ⟨by rw [hRm]; decide, by rw [hRm]; decide⟩ (Nat.le_of_ble_eq_true rfl) rfl (fun v2 h2 hp => ?_) (fun E h9 hx => hx.elim)
  obtain ⟨rfl, r2, hC2, hk2⟩ := hp
  show V G F _ _ _ 79 [some (.ref (A 0)), some (.long d7), none, none, none, none, none] [.int (rdd σ), .long d7] h2
  refine V.callS (As := [.int (rdd σ)]) (st := [.long d7]) hG hF k_RX3_204 (by decide +kernel) (c_X3_asNumber (rdd σ)) rfl ⟨by rw [hRm]; decide, by rw [hRm]; decide⟩ (Nat.le_of_ble_eq_true rfl) rfl (fun v h_12 gp12 => ?_) (fun E h9 hx => hx.elim)
  obtain ⟨rfl, he_gp12⟩ := gp12
  rw [he_gp12]
  show V G F _ _ _ 82 [some (.ref (A 0)), some (.long d7), none, none, none, none, none] [.int (tf (¬ rdd σ = 0)), .long d7] h2
  refine V.run hF [(.i2l, 1, .null)] (pc' := 83) (L' := [some (.ref (A 0)), some (.long d7), none, none, none, none, none]) (st' := [.long (Int32.toInt64 (tf (¬ rdd σ = 0))), .long d7]) (by decide +kernel) rfl ?_
  refine V.callS (As := [.long d7, .long (Int32.toInt64 (tf (¬ rdd σ = 0)))]) (st := []) hG hF k_RX3_193 (by decide +kernel) (c_X3_mixed hG d7 (tf (¬ rdd σ = 0)).toInt64) rfl ⟨by rw [hRm]; decide, by rw [hRm]; decide⟩ (Nat.le_of_ble_eq_true rfl) rfl (fun v h_13 gp13 => ?_) (fun E h9 hx => hx.elim)
  obtain ⟨rfl, he_gp13⟩ := gp13
  rw [he_gp13]
  show V G F _ _ _ 86 [some (.ref (A 0)), some (.long d7), none, none, none, none, none] [.long (mx d7 (tf (¬ rdd σ = 0)))] h2
  obtain ⟨d8, hd8⟩ : ∃ y : Int64, y = mx d7 (tf (¬ rdd σ = 0)) := ⟨_, rfl⟩
  rw [← hd8]
  refine V.run hF [(.lstore_n 1, 1, .null), (.lload_n 1, 1, .null), (.aload_n 0, 1, .null)] (pc' := 89) (L' := [some (.ref (A 0)), some (.long d8), none, none, none, none, none]) (st' := [.ref (A 0), .long d8]) (by decide +kernel) rfl ?_
  refine V.callV (As := []) (st := [.long d8]) hG hF k_RX3_208 (by decide +kernel) (c_X3_bestToSmooth hG hC2) hC2.2.2.1 rfl rfl ⟨by rw [hRm]; decide, by rw [hRm]; decide⟩ (Nat.le_of_ble_eq_true rfl) rfl (fun v3 h3 hp => ?_) (fun E h9 hx => hx.elim)
  obtain ⟨rfl, P3, hC3, hk3⟩ := hp
  show V G F _ _ _ 92 [some (.ref (A 0)), some (.long d8), none, none, none, none, none] [.int ((bst σ 8).1), .long d8] h3
  refine V.run hF [(.i2l, 1, .null)] (pc' := 93) (L' := [some (.ref (A 0)), some (.long d8), none, none, none, none, none]) (st' := [.long (Int32.toInt64 ((bst σ 8).1)), .long d8]) (by decide +kernel) rfl ?_
  refine V.callS (As := [.long d8, .long (Int32.toInt64 ((bst σ 8).1))]) (st := []) hG hF k_RX3_193 (by decide +kernel) (c_X3_mixed hG d8 (bst σ 8).1.toInt64) rfl ⟨by rw [hRm]; decide, by rw [hRm]; decide⟩ (Nat.le_of_ble_eq_true rfl) rfl (fun v h_15 gp15 => ?_) (fun E h9 hx => hx.elim)
  obtain ⟨rfl, he_gp15⟩ := gp15
  rw [he_gp15]
  show V G F _ _ _ 96 [some (.ref (A 0)), some (.long d8), none, none, none, none, none] [.long (mx d8 (bst σ 8).1)] h3
  obtain ⟨d9, hd9⟩ : ∃ y : Int64, y = mx d8 (bst σ 8).1 := ⟨_, rfl⟩
  rw [← hd9]
  refine V.run hF [(.lstore_n 1, 1, .null), (.lload_n 1, 1, .null), (.aload_n 0, 1, .null), (.iconst 5, 1, .int 5)] (pc' := 100) (L' := [some (.ref (A 0)), some (.long d9), none, none, none, none, none]) (st' := [.int 5, .ref (A 0), .long d9]) (by decide +kernel) rfl ?_
  refine V.callV (As := [.int 5]) (st := [.long d9]) hG hF k_RX3_211 (by decide +kernel) (c_X3_meltsIn hG hC3 5 (by omega)) hC3.2.2.1 rfl rfl ⟨by rw [hRm]; decide, by rw [hRm]; decide⟩ (Nat.le_of_ble_eq_true rfl) rfl (fun v4 h1' hp => ?_) (fun E h9 hx => absurd (by decide) hx.2.1)
  obtain ⟨-, rfl, he⟩ := hp
  rw [he]
  show V G F _ _ _ 103 [some (.ref (A 0)), some (.long d9), none, none, none, none, none] [.int (gMI σ 5 (gT σ)), .long d9] h3
  refine V.run hF [(.i2l, 1, .null)] (pc' := 104) (L' := [some (.ref (A 0)), some (.long d9), none, none, none, none, none]) (st' := [.long (Int32.toInt64 (gMI σ 5 (gT σ))), .long d9]) (by decide +kernel) rfl ?_
  refine V.callS (As := [.long d9, .long (Int32.toInt64 (gMI σ 5 (gT σ)))]) (st := []) hG hF k_RX3_193 (by decide +kernel) (c_X3_mixed hG d9 (gMI σ 5 (gT σ)).toInt64) rfl ⟨by rw [hRm]; decide, by rw [hRm]; decide⟩ (Nat.le_of_ble_eq_true rfl) rfl (fun v h_17 gp17 => ?_) (fun E h9 hx => hx.elim)
  obtain ⟨rfl, he_gp17⟩ := gp17
  rw [he_gp17]
  show V G F _ _ _ 107 [some (.ref (A 0)), some (.long d9), none, none, none, none, none] [.long (mx d9 (gMI σ 5 (gT σ)))] h3
  obtain ⟨da, hda⟩ : ∃ y : Int64, y = mx d9 (gMI σ 5 (gT σ)) := ⟨_, rfl⟩
  rw [← hda]
  have ea : da = dg2 σ := by rw [hda, hd9, hd8, hd7, e6, dg2]
  refine V.run hF [(.lstore_n 1, 1, .null)] (pc' := 108) (L' := [some (.ref (A 0)), some (.long da), none, none, none, none, none]) (st' := []) (by decide +kernel) rfl ?_
  have loop2 : ∀ (h5 : Hp) (P5 : PS) (r5 : Nat → Int32), CS h5 A σ P5 r5 → kpC h h5 A (12 + 6 * gT σ) → ∀ i, i ≤ 8 → ∀ (h4 : Hp) (P4 : PS) (r4 : Nat → Int32), CS h4 A σ P4 r4 → kpC h h4 A (12 + 6 * gT σ) → V G F (fin G F (is_d A σ h (dgst σ)) pxN) 0 0 141 [some (.ref (A 0)), some (.long (mTs σ (mPs σ da 8) (min i (gT σ)))), none, some (.ref (A 2)), some (.int (nI 8)), some (.int (nI i)), none] [] h4 := by
    intro _ _ _ _ _
    refine lp_up 8 fun i hi ih => ?_
    intro h4 P4 r4 hC4 hk4
    have dr : ∀ {x : Int64} {u : Option Value} {h6 : Hp} {j : Int32}, V G F (fin G F (is_d A σ h (dgst σ)) pxN) 0 0 141 [some (.ref (A 0)), some (.long x), none, some (.ref (A 2)), some (.int (nI 8)), some (.int j), none] [] h6 → V G F (fin G F (is_d A σ h (dgst σ)) pxN) 0 0 141 [some (.ref (A 0)), some (.long x), none, some (.ref (A 2)), some (.int (nI 8)), some (.int j), u] [] h6 := fun k => V.loc (fun j v hv => by
      match j, hv with
      | 0, hv => exact hv
      | 1, hv => exact hv
      | 2, hv => cases hv
      | 3, hv => exact hv
      | 4, hv => exact hv
      | 5, hv => exact hv
      | 6, hv => cases hv
      | q + 7, hv => cases hv) k
    obtain ⟨-, -, gA, -, g2, -⟩ := id hC4
    refine V.run hF [(.iload 5, 2, .null), (.iload 4, 2, .null)] (pc' := 145) (L' := [some (.ref (A 0)), some (.long (mTs σ (mPs σ da 8) (min i (gT σ)))), none, some (.ref (A 2)), some (.int (nI 8)), some (.int (nI i)), none]) (st' := [.int (nI 8), .int (nI i)]) (by decide +kernel) rfl ?_
    refine V.icmpN_ge (i := i) (j := 8) hF (off := 28) (tgt := 173) (by decide +kernel) (by decide) (by omega) (by omega) (fun c1 => ?_) (fun c1 => ?_)
    · have e : min i (gT σ) = gT σ := by omega
      refine V.run hF [(.lload_n 1, 1, .null)] (pc' := 174) (L' := [some (.ref (A 0)), some (.long (mTs σ (mPs σ da 8) (min i (gT σ)))), none, some (.ref (A 2)), some (.int (nI 8)), some (.int (nI i)), none]) (st' := [.long (mTs σ (mPs σ da 8) (min i (gT σ)))]) (by decide +kernel) rfl ?_
      exact V.retl hF (by decide +kernel) ⟨by rw [e, ea, dgst], P4, r4, hC4, hk4⟩
    · skip
      refine V.run hF [(.aload_n 3, 1, .null), (.iload 5, 2, .null)] (pc' := 151) (L' := [some (.ref (A 0)), some (.long (mTs σ (mPs σ da 8) (min i (gT σ)))), none, some (.ref (A 2)), some (.int (nI 8)), some (.int (nI i)), none]) (st' := [.int (nI i), .ref (A 2)]) (by decide +kernel) rfl ?_
      by_cases ht : i < gT σ
      · skip
        obtain ⟨e1, e2⟩ := min_s ht
        refine V.aaldS (j := i) (b := (A (12 + 6 * i))) hG hF (by decide +kernel) g2 (by omega) (by decide) (shf_in ht) ?_
        refine V.run hF [(.astore 6, 2, .null), (.aload 6, 2, .null)] (pc' := 156) (L' := [some (.ref (A 0)), some (.long (mTs σ (mPs σ da 8) (min i (gT σ)))), none, some (.ref (A 2)), some (.int (nI 8)), some (.int (nI i)), some (.ref (A (12 + 6 * i)))]) (st' := [.ref (A (12 + 6 * i))]) (by decide +kernel) rfl ?_
        refine V.ifnull1 hF (off := 11) (by decide +kernel) ?_
        rw [e2]
        refine V.run hF [(.aload_n 0, 1, .null), (.lload_n 1, 1, .null), (.aload 6, 2, .null)] (pc' := 163) (L' := [some (.ref (A 0)), some (.long (mTs σ (mPs σ da 8) (i))), none, some (.ref (A 2)), some (.int (nI 8)), some (.int (nI i)), some (.ref (A (12 + 6 * i)))]) (st' := [.ref (A (12 + 6 * i)), .long (mTs σ (mPs σ da 8) (i)), .ref (A 0)]) (by decide +kernel) rfl ?_
        refine V.callV (As := [.long (mTs σ (mPs σ da 8) (i)), .ref (A (12 + 6 * i))]) (st := []) hG hF k_RX3_218 (by decide +kernel) (c_X3_mixedWithTablet hG hC4 hz2 hy ht (mTs σ (mPs σ da 8) i)) gA rfl rfl ⟨by rw [hRm]; decide, by rw [hRm]; decide⟩ (Nat.le_of_ble_eq_true rfl) rfl (fun v6 h6 hp => ?_) (fun E h9 hx => hx.elim)
        obtain ⟨rfl, P6, r6, hC6, hk6⟩ := hp
        show V G F _ _ _ 166 [some (.ref (A 0)), some (.long (mTs σ (mPs σ da 8) (i))), none, some (.ref (A 2)), some (.int (nI 8)), some (.int (nI i)), some (.ref (A (12 + 6 * i)))] [.long (mTs σ (mPs σ da 8) (i + 1))] h6
        refine V.run hF [(.lstore_n 1, 1, .null), (.iinc 5 1, 3, .int 1), (.goto (-29), 3, .null)] (pc' := 141) (L' := [some (.ref (A 0)), some (.long (mTs σ (mPs σ da 8) (i + 1))), none, some (.ref (A 2)), some (.int (nI 8)), some (.int ((nI i) + 1)), some (.ref (A (12 + 6 * i)))]) (st' := []) (by decide +kernel) rfl ?_
        rw [nI_1 i]
        have := ih c1 h6 P6 r6 hC6 (hk4.tr hk6)
        rw [e1, e2] at this
        exact dr this
      · skip
        refine V.aaldZ (j := i) hG hF (by decide +kernel) g2 (by omega) (by decide) (shf_out ht) ?_
        refine V.run hF [(.astore 6, 2, .null), (.aload 6, 2, .null)] (pc' := 156) (L' := [some (.ref (A 0)), some (.long (mTs σ (mPs σ da 8) (min i (gT σ)))), none, some (.ref (A 2)), some (.int (nI 8)), some (.int (nI i)), some (.null)]) (st' := [.null]) (by decide +kernel) rfl ?_
        refine V.ifnull0 hF (off := 11) (tgt := 167) (by decide +kernel) (by decide) ?_
        refine V.run hF [(.iinc 5 1, 3, .int 1), (.goto (-29), 3, .null)] (pc' := 141) (L' := [some (.ref (A 0)), some (.long (mTs σ (mPs σ da 8) (min i (gT σ)))), none, some (.ref (A 2)), some (.int (nI 8)), some (.int ((nI i) + 1)), some (.null)]) (st' := []) (by decide +kernel) rfl ?_
        rw [nI_1 i]
        have := ih c1 h4 P4 r4 hC4 hk4
        rw [min_e ht] at this
        exact dr this
  have loop : ∀ p, p ≤ 8 → ∀ (h4 : Hp) (P4 : PS) (r4 : Nat → Int32), CS h4 A σ P4 r4 → kpC h h4 A (12 + 6 * gT σ) → V G F (fin G F (is_d A σ h (dgst σ)) pxN) ((8 - p) * 20) ((8 - p) * 120) 110 [some (.ref (A 0)), some (.long (mPs σ da p)), none, some (.int (nI p)), none, none, none] [] h4 := by
    refine lp_up 8 fun p hp8 ih => ?_
    intro h4 P4 r4 hC4 hk4
    obtain ⟨-, -, gA, -, g2, -⟩ := id hC4
    refine V.run hF [(.iload_n 3, 1, .null), (.bipush 8, 2, .int (nI 8))] (pc' := 113) (L' := [some (.ref (A 0)), some (.long (mPs σ da p)), none, some (.int (nI p)), none, none, none]) (st' := [.int (nI 8), .int (nI p)]) (by decide +kernel) rfl ?_
    refine V.icmpN_ge (i := p) (j := 8) hF (off := 16) (tgt := 129) (by decide +kernel) (by decide) (by omega) (by omega) (fun c1 => ?_) (fun c1 => ?_)
    · have e : p = 8 := by omega
      rw [e]
      refine V.run hF [(.aload_n 0, 1, .null)] (pc' := 130) (L' := [some (.ref (A 0)), some (.long (mPs σ da 8)), none, some (.int (nI 8)), none, none, none]) (st' := [.ref (A 0)]) (by decide +kernel) rfl ?_
      refine V.getf hG hF k_RX3_15 (by decide +kernel) gA rfl ?_
      refine V.run hF [(.astore_n 3, 1, .null), (.aload_n 3, 1, .null)] (pc' := 135) (L' := [some (.ref (A 0)), some (.long (mPs σ da 8)), none, some (.ref (A 2)), none, none, none]) (st' := [.ref (A 2)]) (by decide +kernel) rfl ?_
      refine V.alen hG hF (by decide +kernel) (by decide) g2 ?_
      show V G F _ _ _ 136 [some (.ref (A 0)), some (.long (mPs σ da 8)), none, some (.ref (A 2)), none, none, none] [.int (nI 8)] h4
      refine V.run hF [(.istore 4, 2, .null)] (pc' := 138) (L' := [some (.ref (A 0)), some (.long (mPs σ da 8)), none, some (.ref (A 2)), some (.int (nI 8)), none, none]) (st' := []) (by decide +kernel) rfl ?_
      refine V.run hF [(.iconst 0, 1, .int (nI 0)), (.istore 5, 2, .null)] (pc' := 141) (L' := [some (.ref (A 0)), some (.long (mPs σ da 8)), none, some (.ref (A 2)), some (.int (nI 8)), some (.int (nI 0)), none]) (st' := []) (by decide +kernel) rfl ?_
      have := loop2 h4 P4 r4 hC4 hk4 0 (Nat.zero_le _) h4 P4 r4 hC4 hk4
      rw [Nat.zero_min] at this
      exact this
    · skip
      rw [show (8 - p) * 20 = (8 - (p + 1)) * 20 + 20 by omega, show (8 - p) * 120 = (8 - (p + 1)) * 120 + 120 by omega]
      obtain ⟨k1, hk1⟩ : ∃ k, k = (8 - (p + 1)) * 20 := ⟨_, rfl⟩
      obtain ⟨s1, hs1⟩ : ∃ k, k = (8 - (p + 1)) * 120 := ⟨_, rfl⟩
      rw [← hk1, ← hs1]
      refine V.run hF [(.aload_n 0, 1, .null), (.lload_n 1, 1, .null), (.iload_n 3, 1, .null)] (pc' := 119) (L' := [some (.ref (A 0)), some (.long (mPs σ da p)), none, some (.int (nI p)), none, none, none]) (st' := [.int (nI p), .long (mPs σ da p), .ref (A 0)]) (by decide +kernel) rfl ?_
      refine V.callV (As := [.long (mPs σ da p), .int (nI p)]) (st := []) hG hF k_RX3_214 (by decide +kernel) (c_X3_mixedWithPerson hG hC4 hz c1 (mPs σ da p)) gA rfl rfl ⟨by rw [hRm]; decide, by rw [hRm]; decide⟩ (Nat.le_of_ble_eq_true rfl) rfl (fun v6 h6 hp => ?_) (fun E h9 hx => hx.elim)
      obtain ⟨rfl, P6, r6, hC6, hk6⟩ := hp
      show V G F _ _ _ 122 [some (.ref (A 0)), some (.long (mPs σ da p)), none, some (.int (nI p)), none, none, none] [.long (mPs σ da (p + 1))] h6
      refine V.run hF [(.lstore_n 1, 1, .null), (.iinc 3 1, 3, .int 1), (.goto (-16), 3, .null)] (pc' := 110) (L' := [some (.ref (A 0)), some (.long (mPs σ da (p + 1))), none, some (.int ((nI p) + 1)), none, none, none]) (st' := []) (by decide +kernel) rfl ?_
      rw [nI_1 p]
      rw [hk1, hs1]
      exact ih c1 h6 P6 r6 hC6 (hk4.tr hk6)
  refine V.run hF [(.iconst 0, 1, .int (nI 0)), (.istore_n 3, 1, .null)] (pc' := 110) (L' := [some (.ref (A 0)), some (.long da), none, some (.int (nI 0)), none, none, none]) (st' := []) (by decide +kernel) rfl ?_
  exact loop 0 (Nat.zero_le _) h3 P3 r2 hC3 (hk2.tr hk3)
end Ow
