/-! ===== TallyWax: digest ===== -/
abbrev mx (d : Int64) (y : Int32) : Int64 := d * 31 + y.toInt64
def mPO (σ : Sg) (p : Nat) (d : Int64) : Nat → Int64
  | 0 => d
  | q + 1 => mx (mPO σ p d q) (gOw σ (nI p) (nI q) (gT σ))
def mP4 (σ : Sg) (p : Nat) (d : Int64) : Int64 := mx (mx (mx (mx d (tf (¬ gth σ p = 0))) (balT σ (nI p) (gT σ))) (gOA σ (nI p))) (if gth σ p = 0 then 0 else gRk σ (nI p) (gT σ))
def mP (σ : Sg) (p : Nat) (d : Int64) : Int64 := mPO σ p (mP4 σ p d) 8
def mTL (σ : Sg) (t : Nat) (d : Int64) : Nat → Int64
  | 0 => d
  | l + 1 => mx (mx (mx (mx (mTL σ t d l) (gDD σ t l)) (gC σ t l)) (gM σ t l)) (tf (¬ tf (prs σ (gW σ t l)) = 0))
def mT (σ : Sg) (t : Nat) (d : Int64) : Int64 := mTL σ t (mx (mx (mx d (tf (¬ gce σ t = 0))) (ytm σ t 10 0)) (lf σ t)) (gn σ t)
section Ov
variable {G : Gt} {h : Hp} {A : Nat → Nat} {σ : Sg} {P : PS} {r : Nat → Int32}
def is_d (A : Nat → Nat) (σ : Sg) (h : Hp) (x : Int64) : Option Value → Hp → Prop := fun v h' => v = some (.long x) ∧ ∃ P' r', CS h' A σ P' r' ∧ kpC h h' A (12 + 6 * gT σ)
set_option maxHeartbeats 8000000 in
theorem c_X3_mixedWithPerson (hG : GOk G) (hC : CS h A σ P r) (hz : ∀ p, p < 8 → b01 (gth σ p)) {p : Nat} (hp8 : p < 8) (d : Int64) : Ct G yX3_mixedWithPerson (.code yX3_mixedWithPerson cX3_mixedWithPerson 7 (some .long)) 8 129 20 120 [.ref (A 0), .long d, .int (nI p)] h (is_d A σ h (mP σ p d)) pxN := by
  refine Ct.of (by decide +kernel) (Nat.le_of_ble_eq_true rfl) fun F hF hT hN hRm => ?_
  have hpc : (nI p).toNatClampNeg = p := nI_clamp (by omega)
  have hin := inP_nI hp8
  refine V.run hF [(.lload_n 1, 1, .null), (.aload_n 0, 1, .null), (.iload_n 3, 1, .null)] (pc' := 3) (L' := [some (.ref (A 0)), some (.long d), none, some (.int (nI p)), none, none, none]) (st' := [.int (nI p), .ref (A 0), .long d]) (by decide +kernel) rfl ?_
  refine V.callV (As := [.int (nI p)]) (st := [.long d]) hG hF k_RX3_250 (by decide +kernel) (c_X3_isThere hG hC (nI p) hz) hC.2.2.1 rfl rfl ⟨by rw [hRm]; decide, by rw [hRm]; decide⟩ (Nat.le_of_ble_eq_true rfl) rfl (fun v h1' hp => ?_) (fun E h9 hx => absurd hin hx.2.1)
  obtain ⟨⟨p', hp', ep, rfl⟩, he⟩ := hp
  obtain rfl : p = p' := (nI_eq (by omega) (by omega)).mp ep
  rw [he]
  show V G F _ _ _ 6 [some (.ref (A 0)), some (.long d), none, some (.int (nI p)), none, none, none] [.int (gth σ p), .long d] h
  refine V.callS (As := [.int (gth σ p)]) (st := [.long d]) hG hF k_RX3_204 (by decide +kernel) (c_X3_asNumber (gth σ p)) rfl ⟨by rw [hRm]; decide, by rw [hRm]; decide⟩ (Nat.le_of_ble_eq_true rfl) rfl (fun v h_2 gp2 => ?_) (fun E h9 hx => hx.elim)
  obtain ⟨rfl, he_gp2⟩ := gp2
  rw [he_gp2]
  show V G F _ _ _ 9 [some (.ref (A 0)), some (.long d), none, some (.int (nI p)), none, none, none] [.int (tf (¬ gth σ p = 0)), .long d] h
  refine V.run hF [(.i2l, 1, .null)] (pc' := 10) (L' := [some (.ref (A 0)), some (.long d), none, some (.int (nI p)), none, none, none]) (st' := [.long (Int32.toInt64 (tf (¬ gth σ p = 0))), .long d]) (by decide +kernel) rfl ?_
  refine V.callS (As := [.long d, .long (Int32.toInt64 (tf (¬ gth σ p = 0)))]) (st := []) hG hF k_RX3_193 (by decide +kernel) (c_X3_mixed hG d (tf (¬ gth σ p = 0)).toInt64) rfl ⟨by rw [hRm]; decide, by rw [hRm]; decide⟩ (Nat.le_of_ble_eq_true rfl) rfl (fun v h_3 gp3 => ?_) (fun E h9 hx => hx.elim)
  obtain ⟨rfl, he_gp3⟩ := gp3
  rw [he_gp3]
  show V G F _ _ _ 13 [some (.ref (A 0)), some (.long d), none, some (.int (nI p)), none, none, none] [.long (mx d (tf (¬ gth σ p = 0)))] h
  obtain ⟨d1, hd1⟩ : ∃ y : Int64, y = mx d (tf (¬ gth σ p = 0)) := ⟨_, rfl⟩
  rw [← hd1]
  refine V.run hF [(.lstore 4, 2, .null), (.lload 4, 2, .null), (.aload_n 0, 1, .null), (.iload_n 3, 1, .null)] (pc' := 19) (L' := [some (.ref (A 0)), some (.long d), none, some (.int (nI p)), some (.long d1), none, none]) (st' := [.int (nI p), .ref (A 0), .long d1]) (by decide +kernel) rfl ?_
  refine V.callV (As := [.int (nI p)]) (st := [.long d1]) hG hF k_RX3_253 (by decide +kernel) (c_X3_has hG hC (nI p)) hC.2.2.1 rfl rfl ⟨by rw [hRm]; decide, by rw [hRm]; decide⟩ (Nat.le_of_ble_eq_true rfl) rfl (fun v2 h1' hp => ?_) (fun E h9 hx => absurd hin hx.2.1)
  obtain ⟨⟨p', hp', ep, rfl⟩, he⟩ := hp
  obtain rfl : p = p' := (nI_eq (by omega) (by omega)).mp ep
  rw [he]
  show V G F _ _ _ 22 [some (.ref (A 0)), some (.long d), none, some (.int (nI p)), some (.long d1), none, none] [.int (balT σ (nI p) (gT σ)), .long d1] h
  refine V.run hF [(.i2l, 1, .null)] (pc' := 23) (L' := [some (.ref (A 0)), some (.long d), none, some (.int (nI p)), some (.long d1), none, none]) (st' := [.long (Int32.toInt64 (balT σ (nI p) (gT σ))), .long d1]) (by decide +kernel) rfl ?_
  refine V.callS (As := [.long d1, .long (Int32.toInt64 (balT σ (nI p) (gT σ)))]) (st := []) hG hF k_RX3_193 (by decide +kernel) (c_X3_mixed hG d1 (balT σ (nI p) (gT σ)).toInt64) rfl ⟨by rw [hRm]; decide, by rw [hRm]; decide⟩ (Nat.le_of_ble_eq_true rfl) rfl (fun v h_5 gp5 => ?_) (fun E h9 hx => hx.elim)
  obtain ⟨rfl, he_gp5⟩ := gp5
  rw [he_gp5]
  show V G F _ _ _ 26 [some (.ref (A 0)), some (.long d), none, some (.int (nI p)), some (.long d1), none, none] [.long (mx d1 (balT σ (nI p) (gT σ)))] h
  obtain ⟨d2, hd2⟩ : ∃ y : Int64, y = mx d1 (balT σ (nI p) (gT σ)) := ⟨_, rfl⟩
  rw [← hd2]
  refine V.run hF [(.lstore 4, 2, .null), (.lload 4, 2, .null), (.aload_n 0, 1, .null), (.iload_n 3, 1, .null)] (pc' := 32) (L' := [some (.ref (A 0)), some (.long d), none, some (.int (nI p)), some (.long d2), none, none]) (st' := [.int (nI p), .ref (A 0), .long d2]) (by decide +kernel) rfl ?_
  refine V.callV (As := [.int (nI p)]) (st := [.long d2]) hG hF k_RX3_256 (by decide +kernel) (c_X3_owesAlong hG hC (nI p)) hC.2.2.1 rfl rfl ⟨by rw [hRm]; decide, by rw [hRm]; decide⟩ (Nat.le_of_ble_eq_true rfl) rfl (fun v3 h2 hp => ?_) (fun E h9 hx => absurd hin hx.2.1)
  obtain ⟨-, rfl, r2, hC2, hk2⟩ := hp
  show V G F _ _ _ 35 [some (.ref (A 0)), some (.long d), none, some (.int (nI p)), some (.long d2), none, none] [.int (gOA σ (nI p)), .long d2] h2
  refine V.run hF [(.i2l, 1, .null)] (pc' := 36) (L' := [some (.ref (A 0)), some (.long d), none, some (.int (nI p)), some (.long d2), none, none]) (st' := [.long (Int32.toInt64 (gOA σ (nI p))), .long d2]) (by decide +kernel) rfl ?_
  refine V.callS (As := [.long d2, .long (Int32.toInt64 (gOA σ (nI p)))]) (st := []) hG hF k_RX3_193 (by decide +kernel) (c_X3_mixed hG d2 (gOA σ (nI p)).toInt64) rfl ⟨by rw [hRm]; decide, by rw [hRm]; decide⟩ (Nat.le_of_ble_eq_true rfl) rfl (fun v h_7 gp7 => ?_) (fun E h9 hx => hx.elim)
  obtain ⟨rfl, he_gp7⟩ := gp7
  rw [he_gp7]
  show V G F _ _ _ 39 [some (.ref (A 0)), some (.long d), none, some (.int (nI p)), some (.long d2), none, none] [.long (mx d2 (gOA σ (nI p)))] h2
  obtain ⟨d3, hd3⟩ : ∃ y : Int64, y = mx d2 (gOA σ (nI p)) := ⟨_, rfl⟩
  rw [← hd3]
  refine V.run hF [(.lstore 4, 2, .null), (.lload 4, 2, .null), (.aload_n 0, 1, .null), (.iload_n 3, 1, .null)] (pc' := 45) (L' := [some (.ref (A 0)), some (.long d), none, some (.int (nI p)), some (.long d3), none, none]) (st' := [.int (nI p), .ref (A 0), .long d3]) (by decide +kernel) rfl ?_
  refine V.callV (As := [.int (nI p)]) (st := [.long d3]) hG hF k_RX3_259 (by decide +kernel) (c_X3_atRisk hG hC2 (nI p)) hC2.2.2.1 rfl rfl ⟨by rw [hRm]; decide, by rw [hRm]; decide⟩ (Nat.le_of_ble_eq_true rfl) rfl (fun v4 h1' hp => ?_) (fun E h9 hx => absurd hin hx.2.1)
  rw [hpc] at hp
  obtain ⟨-, rfl, he⟩ := hp
  rw [he]
  obtain ⟨rk, hrk⟩ : ∃ y : Int32, y = if gth σ p = 0 then 0 else gRk σ (nI p) (gT σ) := ⟨_, rfl⟩
  rw [← hrk]
  show V G F _ _ _ 48 [some (.ref (A 0)), some (.long d), none, some (.int (nI p)), some (.long d3), none, none] [.int rk, .long d3] h2
  refine V.run hF [(.i2l, 1, .null)] (pc' := 49) (L' := [some (.ref (A 0)), some (.long d), none, some (.int (nI p)), some (.long d3), none, none]) (st' := [.long (Int32.toInt64 rk), .long d3]) (by decide +kernel) rfl ?_
  refine V.callS (As := [.long d3, .long (Int32.toInt64 rk)]) (st := []) hG hF k_RX3_193 (by decide +kernel) (c_X3_mixed hG d3 rk.toInt64) rfl ⟨by rw [hRm]; decide, by rw [hRm]; decide⟩ (Nat.le_of_ble_eq_true rfl) rfl (fun v h_9 gp9 => ?_) (fun E h9 hx => hx.elim)
  obtain ⟨rfl, he_gp9⟩ := gp9
  rw [he_gp9]
  show V G F _ _ _ 52 [some (.ref (A 0)), some (.long d), none, some (.int (nI p)), some (.long d3), none, none] [.long (mx d3 rk)] h2
  obtain ⟨d4, hd4⟩ : ∃ y : Int64, y = mx d3 rk := ⟨_, rfl⟩
  rw [← hd4]
  have e4 : d4 = mP4 σ p d := by rw [hd4, hd3, hd2, hd1, hrk, mP4]
  refine V.run hF [(.lstore 4, 2, .null), (.iconst 0, 1, .int 0)] (pc' := 55) (L' := [some (.ref (A 0)), some (.long d), none, some (.int (nI p)), some (.long d4), none, none]) (st' := [.int 0]) (by decide +kernel) rfl ?_
  have loop : ∀ q, q ≤ 8 → V G F (fin G F (is_d A σ h (mP σ p d)) pxN) ((8 - q) * 2) ((8 - q) * 12) 57 [some (.ref (A 0)), some (.long d), none, some (.int (nI p)), some (.long (mPO σ p d4 q)), none, some (.int (nI q))] [] h2 := by
    refine lp_up 8 fun q hq ih => ?_
    refine V.run hF [(.iload 6, 2, .null), (.bipush 8, 2, .int (nI 8))] (pc' := 61) (L' := [some (.ref (A 0)), some (.long d), none, some (.int (nI p)), some (.long (mPO σ p d4 q)), none, some (.int (nI q))]) (st' := [.int (nI 8), .int (nI q)]) (by decide +kernel) rfl ?_
    refine V.icmpN_ge (i := q) (j := 8) hF (off := 24) (tgt := 85) (by decide +kernel) (by decide) (by omega) (by omega) (fun c1 => ?_) (fun c1 => ?_)
    · have e : q = 8 := by omega
      rw [e]
      refine V.run hF [(.lload 4, 2, .null)] (pc' := 87) (L' := [some (.ref (A 0)), some (.long d), none, some (.int (nI p)), some (.long (mPO σ p d4 8)), none, some (.int (nI 8))]) (st' := [.long (mPO σ p d4 8)]) (by decide +kernel) rfl ?_
      exact V.retl hF (by decide +kernel) ⟨by rw [mP, e4], P, r2, hC2, hk2⟩
    · skip
      rw [show (8 - q) * 2 = (8 - (q + 1)) * 2 + 2 by omega, show (8 - q) * 12 = (8 - (q + 1)) * 12 + 12 by omega]
      obtain ⟨k1, hk1⟩ : ∃ k, k = (8 - (q + 1)) * 2 := ⟨_, rfl⟩
      obtain ⟨s1, hs1⟩ : ∃ k, k = (8 - (q + 1)) * 12 := ⟨_, rfl⟩
      rw [← hk1, ← hs1]
      refine V.run hF [(.lload 4, 2, .null), (.aload_n 0, 1, .null), (.iload_n 3, 1, .null), (.iload 6, 2, .null)] (pc' := 70) (L' := [some (.ref (A 0)), some (.long d), none, some (.int (nI p)), some (.long (mPO σ p d4 q)), none, some (.int (nI q))]) (st' := [.int (nI q), .int (nI p), .ref (A 0), .long (mPO σ p d4 q)]) (by decide +kernel) rfl ?_
      refine V.callV (As := [.int (nI p), .int (nI q)]) (st := [.long (mPO σ p d4 q)]) hG hF k_RX3_262 (by decide +kernel) (c_X3_owes hG hC2 (nI p) (nI q)) hC2.2.2.1 rfl rfl ⟨by rw [hRm]; decide, by rw [hRm]; decide⟩ (Nat.le_of_ble_eq_true rfl) rfl (fun v5 h1' hp => ?_) (fun E h9 hx => absurd ⟨hin, inP_nI c1⟩ hx.2.1)
      obtain ⟨-, rfl, he⟩ := hp
      rw [he]
      show V G F _ _ _ 73 [some (.ref (A 0)), some (.long d), none, some (.int (nI p)), some (.long (mPO σ p d4 q)), none, some (.int (nI q))] [.int (gOw σ (nI p) (nI q) (gT σ)), .long (mPO σ p d4 q)] h2
      refine V.run hF [(.i2l, 1, .null)] (pc' := 74) (L' := [some (.ref (A 0)), some (.long d), none, some (.int (nI p)), some (.long (mPO σ p d4 q)), none, some (.int (nI q))]) (st' := [.long (Int32.toInt64 (gOw σ (nI p) (nI q) (gT σ))), .long (mPO σ p d4 q)]) (by decide +kernel) rfl ?_
      refine V.callS (As := [.long (mPO σ p d4 q), .long (Int32.toInt64 (gOw σ (nI p) (nI q) (gT σ)))]) (st := []) hG hF k_RX3_193 (by decide +kernel) (c_X3_mixed hG (mPO σ p d4 q) (gOw σ (nI p) (nI q) (gT σ)).toInt64) rfl ⟨by rw [hRm]; decide, by rw [hRm]; decide⟩ (Nat.le_of_ble_eq_true rfl) rfl (fun v h_11 gp11 => ?_) (fun E h9 hx => hx.elim)
      obtain ⟨rfl, he_gp11⟩ := gp11
      rw [he_gp11]
      show V G F _ _ _ 77 [some (.ref (A 0)), some (.long d), none, some (.int (nI p)), some (.long (mPO σ p d4 q)), none, some (.int (nI q))] [.long (mx (mPO σ p d4 q) (gOw σ (nI p) (nI q) (gT σ)))] h2
      refine V.run hF [(.lstore 4, 2, .null), (.iinc 6 1, 3, .int 1), (.goto (-25), 3, .null)] (pc' := 57) (L' := [some (.ref (A 0)), some (.long d), none, some (.int (nI p)), some (.long (mx (mPO σ p d4 q) (gOw σ (nI p) (nI q) (gT σ)))), none, some (.int ((nI q) + 1))]) (st' := []) (by decide +kernel) rfl ?_
      rw [nI_1 q]
      rw [hk1, hs1]
      exact ih c1
  refine V.run hF [(.istore 6, 2, .null)] (pc' := 57) (L' := [some (.ref (A 0)), some (.long d), none, some (.int (nI p)), some (.long d4), none, some (.int 0)]) (st' := []) (by decide +kernel) rfl ?_
  exact loop 0 (Nat.zero_le _)
set_option maxHeartbeats 8000000 in
theorem c_X3_mixedWithTablet (hG : GOk G) (hC : CS h A σ P r) (hz : ∀ t, t < gT σ → b01 (gce σ t)) (hy : gy σ < 2 ^ 29) {t : Nat} (ht : t < gT σ) (d : Int64) : Ct G yX3_mixedWithTablet (.code yX3_mixedWithTablet cX3_mixedWithTablet 8 (some .long)) 4 97 0 0 [.ref (A 0), .long d, .ref (A (12 + 6 * t))] h (is_d A σ h (mT σ t d)) pxN := by
  refine Ct.of (by decide +kernel) (Nat.le_of_ble_eq_true rfl) fun F hF hT hN hRm => ?_
  obtain ⟨t1, t2, t3⟩ := hC.2.2.2.2.2.2.2.2 t ht
  refine V.run hF [(.aload_n 3, 1, .null)] (pc' := 1) (L' := [some (.ref (A 0)), some (.long d), none, some (.ref (A (12 + 6 * t))), none, none, none, none]) (st' := [.ref (A (12 + 6 * t))]) (by decide +kernel) rfl ?_
  refine V.getf hG hF k_RX3_56 (by decide +kernel) t1 rfl ?_
  refine V.run hF [(.astore 4, 2, .null), (.lload_n 1, 1, .null), (.aload_n 3, 1, .null)] (pc' := 8) (L' := [some (.ref (A 0)), some (.long d), none, some (.ref (A (12 + 6 * t))), some (.ref (A (13 + 6 * t))), none, none, none]) (st' := [.ref (A (12 + 6 * t)), .long d]) (by decide +kernel) rfl ?_
  refine V.getf hG hF k_RX3_122 (by decide +kernel) t1 rfl ?_
  refine V.callS (As := [.int (gce σ t)]) (st := [.long d]) hG hF k_RX3_204 (by decide +kernel) (c_X3_asNumber (gce σ t)) rfl ⟨by rw [hRm]; decide, by rw [hRm]; decide⟩ (Nat.le_of_ble_eq_true rfl) rfl (fun v h_1 gp1 => ?_) (fun E h9 hx => hx.elim)
  obtain ⟨rfl, he_gp1⟩ := gp1
  rw [he_gp1]
  show V G F _ _ _ 14 [some (.ref (A 0)), some (.long d), none, some (.ref (A (12 + 6 * t))), some (.ref (A (13 + 6 * t))), none, none, none] [.int (tf (¬ gce σ t = 0)), .long d] h
  refine V.run hF [(.i2l, 1, .null)] (pc' := 15) (L' := [some (.ref (A 0)), some (.long d), none, some (.ref (A (12 + 6 * t))), some (.ref (A (13 + 6 * t))), none, none, none]) (st' := [.long (Int32.toInt64 (tf (¬ gce σ t = 0))), .long d]) (by decide +kernel) rfl ?_
  refine V.callS (As := [.long d, .long (Int32.toInt64 (tf (¬ gce σ t = 0)))]) (st := []) hG hF k_RX3_193 (by decide +kernel) (c_X3_mixed hG d (tf (¬ gce σ t = 0)).toInt64) rfl ⟨by rw [hRm]; decide, by rw [hRm]; decide⟩ (Nat.le_of_ble_eq_true rfl) rfl (fun v h_2 gp2 => ?_) (fun E h9 hx => hx.elim)
  obtain ⟨rfl, he_gp2⟩ := gp2
  rw [he_gp2]
  show V G F _ _ _ 18 [some (.ref (A 0)), some (.long d), none, some (.ref (A (12 + 6 * t))), some (.ref (A (13 + 6 * t))), none, none, none] [.long (mx d (tf (¬ gce σ t = 0)))] h
  obtain ⟨d1, hd1⟩ : ∃ y : Int64, y = mx d (tf (¬ gce σ t = 0)) := ⟨_, rfl⟩
  rw [← hd1]
  refine V.run hF [(.lstore 5, 2, .null), (.lload 5, 2, .null), (.aload_n 0, 1, .null), (.aload_n 3, 1, .null)] (pc' := 24) (L' := [some (.ref (A 0)), some (.long d), none, some (.ref (A (12 + 6 * t))), some (.ref (A (13 + 6 * t))), some (.long d1), none, none]) (st' := [.ref (A (12 + 6 * t)), .ref (A 0), .long d1]) (by decide +kernel) rfl ?_
  refine V.callV (As := [.ref (A (12 + 6 * t))]) (st := [.long d1]) hG hF k_RX3_183 (by decide +kernel) (c_X3_yearsLeftOf hG hC (by omega) ht) hC.2.2.1 rfl rfl ⟨by rw [hRm]; decide, by rw [hRm]; decide⟩ (Nat.le_of_ble_eq_true rfl) rfl (fun v h_3 gp3 => ?_) (fun E h9 hx => hx.elim)
  obtain ⟨rfl, he_gp3⟩ := gp3
  rw [he_gp3]
  show V G F _ _ _ 27 [some (.ref (A 0)), some (.long d), none, some (.ref (A (12 + 6 * t))), some (.ref (A (13 + 6 * t))), some (.long d1), none, none] [.int (ytm σ t 10 0), .long d1] h
  refine V.run hF [(.i2l, 1, .null)] (pc' := 28) (L' := [some (.ref (A 0)), some (.long d), none, some (.ref (A (12 + 6 * t))), some (.ref (A (13 + 6 * t))), some (.long d1), none, none]) (st' := [.long (Int32.toInt64 (ytm σ t 10 0)), .long d1]) (by decide +kernel) rfl ?_
  refine V.callS (As := [.long d1, .long (Int32.toInt64 (ytm σ t 10 0))]) (st := []) hG hF k_RX3_193 (by decide +kernel) (c_X3_mixed hG d1 (ytm σ t 10 0).toInt64) rfl ⟨by rw [hRm]; decide, by rw [hRm]; decide⟩ (Nat.le_of_ble_eq_true rfl) rfl (fun v h_4 gp4 => ?_) (fun E h9 hx => hx.elim)
  obtain ⟨rfl, he_gp4⟩ := gp4
  rw [he_gp4]
  show V G F _ _ _ 31 [some (.ref (A 0)), some (.long d), none, some (.ref (A (12 + 6 * t))), some (.ref (A (13 + 6 * t))), some (.long d1), none, none] [.long (mx d1 (ytm σ t 10 0))] h
  obtain ⟨d2, hd2⟩ : ∃ y : Int64, y = mx d1 (ytm σ t 10 0) := ⟨_, rfl⟩
  rw [← hd2]
  refine V.run hF [(.lstore 5, 2, .null), (.lload 5, 2, .null), (.aload_n 0, 1, .null), (.aload_n 3, 1, .null)] (pc' := 37) (L' := [some (.ref (A 0)), some (.long d), none, some (.ref (A (12 + 6 * t))), some (.ref (A (13 + 6 * t))), some (.long d2), none, none]) (st' := [.ref (A (12 + 6 * t)), .ref (A 0), .long d2]) (by decide +kernel) rfl ?_
  refine V.callV (As := [.ref (A (12 + 6 * t))]) (st := [.long d2]) hG hF k_RX3_173 (by decide +kernel) (c_X3_linesLeftOn hG hC ht) hC.2.2.1 rfl rfl ⟨by rw [hRm]; decide, by rw [hRm]; decide⟩ (Nat.le_of_ble_eq_true rfl) rfl (fun v3 h2 hp => ?_) (fun E h9 hx => hx.elim)
  obtain ⟨rfl, P2, hC2, hk2⟩ := hp
  obtain ⟨t1, t2, t3⟩ := hC2.2.2.2.2.2.2.2.2 t ht
  show V G F _ _ _ 40 [some (.ref (A 0)), some (.long d), none, some (.ref (A (12 + 6 * t))), some (.ref (A (13 + 6 * t))), some (.long d2), none, none] [.int (lf σ t), .long d2] h2
  refine V.run hF [(.i2l, 1, .null)] (pc' := 41) (L' := [some (.ref (A 0)), some (.long d), none, some (.ref (A (12 + 6 * t))), some (.ref (A (13 + 6 * t))), some (.long d2), none, none]) (st' := [.long (Int32.toInt64 (lf σ t)), .long d2]) (by decide +kernel) rfl ?_
  refine V.callS (As := [.long d2, .long (Int32.toInt64 (lf σ t))]) (st := []) hG hF k_RX3_193 (by decide +kernel) (c_X3_mixed hG d2 (lf σ t).toInt64) rfl ⟨by rw [hRm]; decide, by rw [hRm]; decide⟩ (Nat.le_of_ble_eq_true rfl) rfl (fun v h_6 gp6 => ?_) (fun E h9 hx => hx.elim)
  obtain ⟨rfl, he_gp6⟩ := gp6
  rw [he_gp6]
  show V G F _ _ _ 44 [some (.ref (A 0)), some (.long d), none, some (.ref (A (12 + 6 * t))), some (.ref (A (13 + 6 * t))), some (.long d2), none, none] [.long (mx d2 (lf σ t))] h2
  obtain ⟨d3, hd3⟩ : ∃ y : Int64, y = mx d2 (lf σ t) := ⟨_, rfl⟩
  rw [← hd3]
  have e3 : mT σ t d = mTL σ t d3 (gn σ t) := by rw [hd3, hd2, hd1, mT]
  refine V.run hF [(.lstore 5, 2, .null), (.iconst 0, 1, .int 0)] (pc' := 47) (L' := [some (.ref (A 0)), some (.long d), none, some (.ref (A (12 + 6 * t))), some (.ref (A (13 + 6 * t))), some (.long d3), none, none]) (st' := [.int 0]) (by decide +kernel) rfl ?_
  have loop : ∀ l, l ≤ gn σ t → V G F (fin G F (is_d A σ h (mT σ t d)) pxN) 0 0 49 [some (.ref (A 0)), some (.long d), none, some (.ref (A (12 + 6 * t))), some (.ref (A (13 + 6 * t))), some (.long (mTL σ t d3 l)), none, some (.int (nI l))] [] h2 := by
    refine lp_up (gn σ t) fun l hl ih => ?_
    refine V.run hF [(.iload 7, 2, .null), (.aload 4, 2, .null)] (pc' := 53) (L' := [some (.ref (A 0)), some (.long d), none, some (.ref (A (12 + 6 * t))), some (.ref (A (13 + 6 * t))), some (.long (mTL σ t d3 l)), none, some (.int (nI l))]) (st' := [.ref (A (13 + 6 * t)), .int (nI l)]) (by decide +kernel) rfl ?_
    refine V.getf hG hF k_RX3_67 (by decide +kernel) t2.1 rfl ?_
    refine V.icmpN_ge (i := l) (j := gn σ t) hF (off := 80) (tgt := 136) (by decide +kernel) (by decide) (by omega) (by omega) (fun c1 => ?_) (fun c1 => ?_)
    · have e : l = gn σ t := by omega
      rw [e]
      refine V.run hF [(.lload 5, 2, .null)] (pc' := 138) (L' := [some (.ref (A 0)), some (.long d), none, some (.ref (A (12 + 6 * t))), some (.ref (A (13 + 6 * t))), some (.long (mTL σ t d3 (gn σ t))), none, some (.int (nI (gn σ t)))]) (st' := [.long (mTL σ t d3 (gn σ t))]) (by decide +kernel) rfl ?_
      exact V.retl hF (by decide +kernel) ⟨by rw [e3], P2, r, hC2, hk2⟩
    · skip
      have c1 : l < gn σ t := by omega
      refine V.run hF [(.lload 5, 2, .null), (.aload 4, 2, .null)] (pc' := 63) (L' := [some (.ref (A 0)), some (.long d), none, some (.ref (A (12 + 6 * t))), some (.ref (A (13 + 6 * t))), some (.long (mTL σ t d3 l)), none, some (.int (nI l))]) (st' := [.ref (A (13 + 6 * t)), .long (mTL σ t d3 l)]) (by decide +kernel) rfl ?_
      refine V.getf hG hF k_RX3_101 (by decide +kernel) t2.1 rfl ?_
      refine V.run hF [(.iload 7, 2, .null)] (pc' := 68) (L' := [some (.ref (A 0)), some (.long d), none, some (.ref (A (12 + 6 * t))), some (.ref (A (13 + 6 * t))), some (.long (mTL σ t d3 l)), none, some (.int (nI l))]) (st' := [.int (nI l), .ref (A (14 + 6 * t)), .long (mTL σ t d3 l)]) (by decide +kernel) rfl ?_
      refine V.ialdN (j := l) hG hF (by decide +kernel) t2.2.1 (by omega) (by decide) ?_
      refine V.run hF [(.i2l, 1, .null)] (pc' := 70) (L' := [some (.ref (A 0)), some (.long d), none, some (.ref (A (12 + 6 * t))), some (.ref (A (13 + 6 * t))), some (.long (mTL σ t d3 l)), none, some (.int (nI l))]) (st' := [.long (Int32.toInt64 ((gDD σ t) l)), .long (mTL σ t d3 l)]) (by decide +kernel) rfl ?_
      refine V.callS (As := [.long (mTL σ t d3 l), .long (Int32.toInt64 ((gDD σ t) l))]) (st := []) hG hF k_RX3_193 (by decide +kernel) (c_X3_mixed hG (mTL σ t d3 l) (gDD σ t l).toInt64) rfl ⟨by rw [hRm]; decide, by rw [hRm]; decide⟩ (Nat.le_of_ble_eq_true rfl) rfl (fun v h_7 gp7 => ?_) (fun E h9 hx => hx.elim)
      obtain ⟨rfl, he_gp7⟩ := gp7
      rw [he_gp7]
      show V G F _ _ _ 73 [some (.ref (A 0)), some (.long d), none, some (.ref (A (12 + 6 * t))), some (.ref (A (13 + 6 * t))), some (.long (mTL σ t d3 l)), none, some (.int (nI l))] [.long (mx (mTL σ t d3 l) (gDD σ t l))] h2
      obtain ⟨f1, hf1⟩ : ∃ y : Int64, y = mx (mTL σ t d3 l) (gDD σ t l) := ⟨_, rfl⟩
      rw [← hf1]
      refine V.run hF [(.lstore 5, 2, .null), (.lload 5, 2, .null), (.aload 4, 2, .null)] (pc' := 79) (L' := [some (.ref (A 0)), some (.long d), none, some (.ref (A (12 + 6 * t))), some (.ref (A (13 + 6 * t))), some (.long f1), none, some (.int (nI l))]) (st' := [.ref (A (13 + 6 * t)), .long f1]) (by decide +kernel) rfl ?_
      refine V.getf hG hF k_RX3_146 (by decide +kernel) t2.1 rfl ?_
      refine V.run hF [(.iload 7, 2, .null)] (pc' := 84) (L' := [some (.ref (A 0)), some (.long d), none, some (.ref (A (12 + 6 * t))), some (.ref (A (13 + 6 * t))), some (.long f1), none, some (.int (nI l))]) (st' := [.int (nI l), .ref (A (15 + 6 * t)), .long f1]) (by decide +kernel) rfl ?_
      refine V.ialdN (j := l) hG hF (by decide +kernel) t2.2.2.1 (by omega) (by decide) ?_
      refine V.run hF [(.i2l, 1, .null)] (pc' := 86) (L' := [some (.ref (A 0)), some (.long d), none, some (.ref (A (12 + 6 * t))), some (.ref (A (13 + 6 * t))), some (.long f1), none, some (.int (nI l))]) (st' := [.long (Int32.toInt64 ((gC σ t) l)), .long f1]) (by decide +kernel) rfl ?_
      refine V.callS (As := [.long f1, .long (Int32.toInt64 ((gC σ t) l))]) (st := []) hG hF k_RX3_193 (by decide +kernel) (c_X3_mixed hG f1 (gC σ t l).toInt64) rfl ⟨by rw [hRm]; decide, by rw [hRm]; decide⟩ (Nat.le_of_ble_eq_true rfl) rfl (fun v h_8 gp8 => ?_) (fun E h9 hx => hx.elim)
      obtain ⟨rfl, he_gp8⟩ := gp8
      rw [he_gp8]
      show V G F _ _ _ 89 [some (.ref (A 0)), some (.long d), none, some (.ref (A (12 + 6 * t))), some (.ref (A (13 + 6 * t))), some (.long f1), none, some (.int (nI l))] [.long (mx f1 (gC σ t l))] h2
      obtain ⟨f2, hf2⟩ : ∃ y : Int64, y = mx f1 (gC σ t l) := ⟨_, rfl⟩
      rw [← hf2]
      refine V.run hF [(.lstore 5, 2, .null), (.lload 5, 2, .null), (.aload 4, 2, .null)] (pc' := 95) (L' := [some (.ref (A 0)), some (.long d), none, some (.ref (A (12 + 6 * t))), some (.ref (A (13 + 6 * t))), some (.long f2), none, some (.int (nI l))]) (st' := [.ref (A (13 + 6 * t)), .long f2]) (by decide +kernel) rfl ?_
      refine V.getf hG hF k_RX3_88 (by decide +kernel) t2.1 rfl ?_
      refine V.run hF [(.iload 7, 2, .null)] (pc' := 100) (L' := [some (.ref (A 0)), some (.long d), none, some (.ref (A (12 + 6 * t))), some (.ref (A (13 + 6 * t))), some (.long f2), none, some (.int (nI l))]) (st' := [.int (nI l), .ref (A (16 + 6 * t)), .long f2]) (by decide +kernel) rfl ?_
      refine V.ialdN (j := l) hG hF (by decide +kernel) t2.2.2.2.1 (by omega) (by decide) ?_
      refine V.run hF [(.i2l, 1, .null)] (pc' := 102) (L' := [some (.ref (A 0)), some (.long d), none, some (.ref (A (12 + 6 * t))), some (.ref (A (13 + 6 * t))), some (.long f2), none, some (.int (nI l))]) (st' := [.long (Int32.toInt64 ((gM σ t) l)), .long f2]) (by decide +kernel) rfl ?_
      refine V.callS (As := [.long f2, .long (Int32.toInt64 ((gM σ t) l))]) (st := []) hG hF k_RX3_193 (by decide +kernel) (c_X3_mixed hG f2 (gM σ t l).toInt64) rfl ⟨by rw [hRm]; decide, by rw [hRm]; decide⟩ (Nat.le_of_ble_eq_true rfl) rfl (fun v h_9 gp9 => ?_) (fun E h9 hx => hx.elim)
      obtain ⟨rfl, he_gp9⟩ := gp9
      rw [he_gp9]
      show V G F _ _ _ 105 [some (.ref (A 0)), some (.long d), none, some (.ref (A (12 + 6 * t))), some (.ref (A (13 + 6 * t))), some (.long f2), none, some (.int (nI l))] [.long (mx f2 (gM σ t l))] h2
      obtain ⟨f3, hf3⟩ : ∃ y : Int64, y = mx f2 (gM σ t l) := ⟨_, rfl⟩
      rw [← hf3]
      refine V.run hF [(.lstore 5, 2, .null), (.lload 5, 2, .null), (.aload_n 0, 1, .null), (.aload 4, 2, .null)] (pc' := 112) (L' := [some (.ref (A 0)), some (.long d), none, some (.ref (A (12 + 6 * t))), some (.ref (A (13 + 6 * t))), some (.long f3), none, some (.int (nI l))]) (st' := [.ref (A (13 + 6 * t)), .ref (A 0), .long f3]) (by decide +kernel) rfl ?_
      refine V.getf hG hF k_RX3_96 (by decide +kernel) t2.1 rfl ?_
      refine V.run hF [(.iload 7, 2, .null)] (pc' := 117) (L' := [some (.ref (A 0)), some (.long d), none, some (.ref (A (12 + 6 * t))), some (.ref (A (13 + 6 * t))), some (.long f3), none, some (.int (nI l))]) (st' := [.int (nI l), .ref (A (17 + 6 * t)), .ref (A 0), .long f3]) (by decide +kernel) rfl ?_
      refine V.ialdN (j := l) hG hF (by decide +kernel) t2.2.2.2.2 (by omega) (by decide) ?_
      refine V.callV (As := [.int ((gW σ t) l)]) (st := [.long f3]) hG hF k_RX3_74 (by decide +kernel) (c_X3_isPresent hG hC2 (gW σ t l)) hC2.2.2.1 rfl rfl ⟨by rw [hRm]; decide, by rw [hRm]; decide⟩ (Nat.le_of_ble_eq_true rfl) rfl (fun v h_10 gp10 => ?_) (fun E h9 hx => hx.elim)
      obtain ⟨rfl, he_gp10⟩ := gp10
      rw [he_gp10]
      show V G F _ _ _ 121 [some (.ref (A 0)), some (.long d), none, some (.ref (A (12 + 6 * t))), some (.ref (A (13 + 6 * t))), some (.long f3), none, some (.int (nI l))] [.int (tf (prs σ (gW σ t l))), .long f3] h2
      refine V.callS (As := [.int (tf (prs σ (gW σ t l)))]) (st := [.long f3]) hG hF k_RX3_204 (by decide +kernel) (c_X3_asNumber (tf (prs σ (gW σ t l)))) rfl ⟨by rw [hRm]; decide, by rw [hRm]; decide⟩ (Nat.le_of_ble_eq_true rfl) rfl (fun v h_11 gp11 => ?_) (fun E h9 hx => hx.elim)
      obtain ⟨rfl, he_gp11⟩ := gp11
      rw [he_gp11]
      show V G F _ _ _ 124 [some (.ref (A 0)), some (.long d), none, some (.ref (A (12 + 6 * t))), some (.ref (A (13 + 6 * t))), some (.long f3), none, some (.int (nI l))] [.int (tf (¬ tf (prs σ (gW σ t l)) = 0)), .long f3] h2
      refine V.run hF [(.i2l, 1, .null)] (pc' := 125) (L' := [some (.ref (A 0)), some (.long d), none, some (.ref (A (12 + 6 * t))), some (.ref (A (13 + 6 * t))), some (.long f3), none, some (.int (nI l))]) (st' := [.long (Int32.toInt64 (tf (¬ tf (prs σ (gW σ t l)) = 0))), .long f3]) (by decide +kernel) rfl ?_
      refine V.callS (As := [.long f3, .long (Int32.toInt64 (tf (¬ tf (prs σ (gW σ t l)) = 0)))]) (st := []) hG hF k_RX3_193 (by decide +kernel) (c_X3_mixed hG f3 (tf (¬ tf (prs σ (gW σ t l)) = 0)).toInt64) rfl ⟨by rw [hRm]; decide, by rw [hRm]; decide⟩ (Nat.le_of_ble_eq_true rfl) rfl (fun v h_12 gp12 => ?_) (fun E h9 hx => hx.elim)
      obtain ⟨rfl, he_gp12⟩ := gp12
      rw [he_gp12]
      show V G F _ _ _ 128 [some (.ref (A 0)), some (.long d), none, some (.ref (A (12 + 6 * t))), some (.ref (A (13 + 6 * t))), some (.long f3), none, some (.int (nI l))] [.long (mx f3 (tf (¬ tf (prs σ (gW σ t l)) = 0)))] h2
      obtain ⟨f4, hf4⟩ : ∃ y : Int64, y = mx f3 (tf (¬ tf (prs σ (gW σ t l)) = 0)) := ⟨_, rfl⟩
      rw [← hf4]
      have e4 : f4 = mTL σ t d3 (l + 1) := by rw [hf4, hf3, hf2, hf1, mTL]
      rw [e4]
      refine V.run hF [(.lstore 5, 2, .null), (.iinc 7 1, 3, .int 1), (.goto (-84), 3, .null)] (pc' := 49) (L' := [some (.ref (A 0)), some (.long d), none, some (.ref (A (12 + 6 * t))), some (.ref (A (13 + 6 * t))), some (.long (mTL σ t d3 (l + 1))), none, some (.int ((nI l) + 1))]) (st' := []) (by decide +kernel) rfl ?_
      rw [nI_1 l]
      exact ih c1
  refine V.run hF [(.istore 7, 2, .null)] (pc' := 49) (L' := [some (.ref (A 0)), some (.long d), none, some (.ref (A (12 + 6 * t))), some (.ref (A (13 + 6 * t))), some (.long d3), none, some (.int 0)]) (st' := []) (by decide +kernel) rfl ?_
  exact loop 0 (Nat.zero_le _)
end Ov
