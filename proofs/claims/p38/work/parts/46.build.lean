/-! ===== cell, build ===== -/
theorem IV.cast {S S' : Int} {Y Y' a o : Nat} {h : Hp} (hI : IV S Y a o h) (e1 : S ≤ S') (e2 : Y ≤ Y') : IV S' Y' a o h := by
  obtain ⟨A, q, σ, P, r, g1, g2, g3, g4, g5, g6, g7, g8⟩ := hI
  exact ⟨A, q, σ, P, r, g1, g2, g3, g4, g5, g6, g7.up e1, Nat.le_trans g8 e2⟩
theorem RI_0 : RI S0 := ⟨fun p hp => Or.inr (if_pos hp), fun t ht => absurd ht (Nat.not_lt_zero t), fun t l ht => absurd ht (Nat.not_lt_zero t), fun t ht => absurd ht (Nat.not_lt_zero t)⟩
theorem Am_0 : Am S0 0 := fun t ht => absurd ht (Nat.not_lt_zero t)
section Bu
variable {G : Gt} {h : Hp}
set_option maxHeartbeats 4000000 in
theorem c_L_cell (hG : GOk G) {b n k : Nat} {xs : Nat → Int32} (hX : SX G b n xs) (hn : n ≤ 260) (hk : k < 2 ^ 30) : Ct G yL_cell (.code yL_cell cL_cell 2 (some .int)) 0 0 0 0 [.ref b, .int (nI k)] h (fun v h' => ∃ z, v = some (.int z) ∧ h' = h) pxN := by
  refine Ct.of (by decide +kernel) (Nat.le_of_ble_eq_true rfl) fun F hF hT hN hRm => ?_
  refine V.run hF [(.iload_n 1, 1, .null), (.aload_n 0, 1, .null)] (pc' := 2) (L' := [some (.ref b), some (.int (nI k))]) (st' := [.ref b, .int (nI k)]) (by decide +kernel) rfl ?_
  refine V.slen hF hX (by decide +kernel) ?_
  refine V.icmpN_ge (i := k) (j := n) hF (off := 9) (tgt := 12) (by decide +kernel) (by decide) (by omega) (by omega) (fun c1 => ?_) (fun c1 => ?_)
  · skip
    refine V.ldc hG hF tw_440 (by decide +kernel) ?_
    refine V.run hF [(.iload_n 1, 1, .null), (.iconst 3, 1, .int 3), (.iadd, 1, .null), (.imul, 1, .null)] (pc' := 18) (L' := [some (.ref b), some (.int (nI k))]) (st' := [.int (790386105 * (nI k + 3))]) (by decide +kernel) rfl ?_
    exact V.reti hF (by decide +kernel) ⟨_, rfl, rfl⟩
  · skip
    refine V.run hF [(.aload_n 0, 1, .null), (.iload_n 1, 1, .null)] (pc' := 8) (L' := [some (.ref b), some (.int (nI k))]) (st' := [.int (nI k), .ref b]) (by decide +kernel) rfl ?_
    refine V.sld (j := k) hF hX (by decide +kernel) (by omega) (by omega) ?_
    refine V.run hF [(.goto 9, 3, .null)] (pc' := 18) (L' := [some (.ref b), some (.int (nI k))]) (st' := [.int (xs (k))]) (by decide +kernel) rfl ?_
    exact V.reti hF (by decide +kernel) ⟨_, rfl, rfl⟩
abbrev buP (a : Nat) : Option Value → Hp → Prop := fun v h' => ∃ o, v = some (.ref o) ∧ IV 83000 3320 a o h'
set_option maxHeartbeats 8000000 in
theorem c_L_build (hG : GOk G) {b n : Nat} {xs : Nat → Int32} {A : Nat → Nat} {P : PS} {r : Nat → Int32} (hX : SX G b n xs) (hn : n ≤ 260) (hC : CS h A S0 P r) : Ct G yL_build (.code yL_build cL_build 5 (some (.object "TallyWaxLaw$Sim"))) 10 198 33300 33300 [.ref (A 0), .ref b] h (buP (A 0)) pxN := by
  refine Ct.of (by decide +kernel) (Nat.le_of_ble_eq_true rfl) fun F hF hT hN hRm => ?_
  obtain ⟨-, -, gA, -⟩ := id hC
  refine V.less (kc' := 33299 + 1) (ks' := 33293 + 7) (by decide) (by decide) ?_
  refine V.new hG hF k_RL_10 (by decide +kernel) (fun o hq_o => ?_)
  have ne_A0_o : (A 0) ≠ o := ne_new gA hq_o
  obtain ⟨h_1, gh1⟩ : ∃ z : Hp, z = hset h o (.inr (4, [.null, .null, .null, .null, .int 0, .int 0, .int 0])) := ⟨_, rfl⟩
  refine V.hp gh1 ?_
  have gk1 : ∀ zq : Nat, zq ≠ o → h_1 zq = h zq := fun zq hq => by rw [gh1]; exact hset_ne hq
  have gs1 : h_1 o = some (.inr (4, [.null, .null, .null, .null, .int 0, .int 0, .int 0])) := by rw [gh1]; exact hset_eq
  have x1 : Ex h h_1 := Ex.new hq_o (fun x hx => gk1 x hx)
  have co := gs1
  have hC1 := hC.ex x1
  have no : ∀ i, i < 12 + 6 * gT S0 → o ≠ A i := fun i hi => by
    obtain ⟨c, hc⟩ := hC.live hi
    exact Ne.symm (ne_new hc hq_o)
  obtain ⟨h1, eh1⟩ : ∃ z : Hp, z = h_1 := ⟨_, rfl⟩
  rw [← eh1] at co hC1
  refine V.run hF [(.dup, 1, .null)] (pc' := 4) (L' := [some (.ref (A 0)), some (.ref b), none, none, none]) (st' := [.ref o, .ref o]) (by decide +kernel) rfl ?_
  rw [← eh1]
  refine V.less (kc' := 33287 + 12) (ks' := 33267 + 26) (by decide) (by decide) ?_
  refine V.callI (As := []) (st := [.ref o]) hG hF k_RL_87 (by decide +kernel) (c_X4_init hG co) rfl ⟨by rw [hRm]; decide, by rw [hRm]; decide⟩ (Nat.le_of_ble_eq_true rfl) rfl (fun v h2 hp2 => ?_)
  obtain ⟨hv, q, rfl, hS2, f1, f2, ew⟩ := hp2
  rw [hv]
  have hC2 := hC1.exw ew no
  have hO : SO A q := by
    refine ⟨fun e => ?_, fun e => ?_⟩
    · obtain ⟨c, hc⟩ := hC1.live (i := 1) (by omega)
      rw [← e, f1] at hc
      cases hc
    · obtain ⟨c, hc⟩ := hC1.live (i := 3) (by omega)
      rw [← e, f2] at hc
      cases hc
  have hI0 : IV ((999 * 0 : Nat) : Int) (40 * 0) (A 0) (qo q) h2 := ⟨A, q, S0, _, _, rfl, rfl, hC2, hS2, hO, RI_0, Am_0, Nat.le_refl 0⟩
  show V G F _ _ _ 7 [some (.ref (A 0)), some (.ref b), none, none, none] [.ref (qo q)] h2
  refine V.run hF [(.astore_n 2, 1, .null), (.bipush 14, 2, .int (nI 14)), (.aload_n 1, 1, .null), (.iconst 0, 1, .int (nI 0))] (pc' := 12) (L' := [some (.ref (A 0)), some (.ref b), some (.ref (qo q)), none, none]) (st' := [.int (nI 0), .ref b, .int (nI 14)]) (by decide +kernel) rfl ?_
  refine V.callS (As := [.ref b, .int (nI 0)]) (st := [.int (nI 14)]) hG hF k_RL_88 (by decide +kernel) (c_L_cell hG hX hn (by omega)) rfl ⟨by rw [hRm]; decide, by rw [hRm]; decide⟩ (Nat.le_of_ble_eq_true rfl) rfl (fun v h3 hp3 => ?_) (fun E h9 hx => hx.elim)
  obtain ⟨z0, hv3, he3⟩ := hp3
  rw [hv3, he3]
  show V G F _ _ _ 15 [some (.ref (A 0)), some (.ref b), some (.ref (qo q)), none, none] [.int z0, .int (nI 14)] h2
  refine V.run hF [(.bipush 70, 2, .int (nI 70))] (pc' := 17) (L' := [some (.ref (A 0)), some (.ref b), some (.ref (qo q)), none, none]) (st' := [.int (nI 70), .int z0, .int (nI 14)]) (by decide +kernel) rfl ?_
  refine V.callS (As := [.int z0, .int (nI 70)]) (st := [.int (nI 14)]) hG hF k_RL_15 (by decide +kernel) (c_L_below hG z0 (n := 70) (by omega) (by omega)) rfl ⟨by rw [hRm]; decide, by rw [hRm]; decide⟩ (Nat.le_of_ble_eq_true rfl) rfl (fun v h_4 gp4 => ?_) (fun E h9 hx => hx.elim)
  obtain ⟨rfl, he_gp4⟩ := gp4
  rw [he_gp4]
  show V G F _ _ _ 20 [some (.ref (A 0)), some (.ref b), some (.ref (qo q)), none, none] [.int (nI (bl z0 70)), .int (nI 14)] h2
  obtain ⟨k, hk⟩ : ∃ z : Nat, z = bl z0 70 := ⟨_, rfl⟩
  rw [← hk]
  have lt_k : k < 70 := by rw [hk]; exact Nat.mod_lt _ (by omega)
  refine V.run hF [(.iadd, 1, .null)] (pc' := 21) (L' := [some (.ref (A 0)), some (.ref b), some (.ref (qo q)), none, none]) (st' := [.int (nI 14 + nI k)]) (by decide +kernel) rfl ?_
  rw [nI_add 14 k]
  obtain ⟨m, hm⟩ : ∃ z : Nat, z = 14 + k := ⟨_, rfl⟩
  rw [← hm]
  have m83 : m ≤ 83 := by omega
  have loop : ∀ i, i ≤ m → ∀ hh : Hp, IV ((999 * i : Nat) : Int) (40 * i) (A 0) (qo q) hh → V G F (fin G F (buP (A 0)) pxN) (400 * (m - i)) (400 * (m - i)) 25 [some (.ref (A 0)), some (.ref b), some (.ref (qo q)), some (.int (nI m)), some (.int (nI i))] [] hh := by
    refine lp_up m fun i hi ih hh hI => ?_
    refine V.run hF [(.iload 4, 2, .null), (.iload_n 3, 1, .null)] (pc' := 28) (L' := [some (.ref (A 0)), some (.ref b), some (.ref (qo q)), some (.int (nI m)), some (.int (nI i))]) (st' := [.int (nI m), .int (nI i)]) (by decide +kernel) rfl ?_
    refine V.icmpN_ge (i := i) (j := m) hF (off := 43) (tgt := 71) (by decide +kernel) (by decide) (by omega) (by omega) (fun c1 => ?_) (fun c1 => ?_)
    · skip
      refine V.run hF [(.aload_n 2, 1, .null)] (pc' := 72) (L' := [some (.ref (A 0)), some (.ref b), some (.ref (qo q)), some (.int (nI m)), some (.int (nI i))]) (st' := [.ref (qo q)]) (by decide +kernel) rfl ?_
      exact V.reta hF (by decide +kernel) ⟨_, rfl, hI.cast (by omega) (by omega)⟩
    · skip
      refine V.run hF [(.aload_n 0, 1, .null), (.aload_n 2, 1, .null), (.aload_n 1, 1, .null), (.iload 4, 2, .null), (.bipush 16, 2, .int (nI 16))] (pc' := 38) (L' := [some (.ref (A 0)), some (.ref b), some (.ref (qo q)), some (.int (nI m)), some (.int (nI i))]) (st' := [.int (nI 16), .int (nI i), .ref b, .ref (qo q), .ref (A 0)]) (by decide +kernel) rfl ?_
      refine V.iremN (a := i) (b := 16) hF (by decide +kernel) (by omega) (by omega) (by omega) ?_
      refine V.less (kc' := 400 * (m - i) + 0) (ks' := 400 * (m - i) + 0) (by omega) (by omega) ?_
      refine V.callS (As := [.ref b, .int (nI (i % 16))]) (st := [.ref (qo q), .ref (A 0)]) hG hF k_RL_88 (by decide +kernel) (c_L_cell hG hX hn (by omega)) rfl ⟨by rw [hRm]; decide, by rw [hRm]; decide⟩ (Nat.le_of_ble_eq_true rfl) rfl (fun v h3 hp3 => ?_) (fun E h9 hx => hx.elim)
      obtain ⟨z1, hv3, he3⟩ := hp3
      rw [hv3, he3]
      show V G F _ _ _ 42 [some (.ref (A 0)), some (.ref b), some (.ref (qo q)), some (.int (nI m)), some (.int (nI i))] [.int z1, .ref (qo q), .ref (A 0)] hh
      refine V.run hF [(.iload 4, 2, .null), (.bipush 16, 2, .int (nI 16))] (pc' := 46) (L' := [some (.ref (A 0)), some (.ref b), some (.ref (qo q)), some (.int (nI m)), some (.int (nI i))]) (st' := [.int (nI 16), .int (nI i), .int z1, .ref (qo q), .ref (A 0)]) (by decide +kernel) rfl ?_
      refine V.idivN (a := i) (b := 16) hF (by decide +kernel) (by omega) (by omega) (by omega) ?_
      refine V.run hF [(.iconst 3, 1, .int 3), (.imul, 1, .null), (.ishr, 1, .null), (.sipush 769, 3, .int (nI 769)), (.iload 4, 2, .null), (.imul, 1, .null), (.iadd, 1, .null)] (pc' := 57) (L' := [some (.ref (A 0)), some (.ref b), some (.ref (qo q)), some (.int (nI m)), some (.int (nI i))]) (st' := [.int ((z1 >>> ((nI (i / 16) * 3) &&& 31)) + (nI 769 * nI i)), .ref (qo q), .ref (A 0)]) (by decide +kernel) rfl ?_
      refine V.less (kc' := 400 * (m - (i + 1)) + 400) (ks' := 400 * (m - (i + 1)) + 400) (by omega) (by omega) ?_
      refine V.callS (As := [.ref (A 0), .ref (qo q), .int ((z1 >>> ((nI (i / 16) * 3) &&& 31)) + (nI 769 * nI i))]) (st := []) hG hF k_RL_92 (by decide +kernel) (c_L_act hG hI (by omega) (by omega) (by omega) _) rfl ⟨by rw [hRm]; decide, by rw [hRm]; decide⟩ (Nat.le_of_ble_eq_true rfl) rfl (fun v h4 hp4 => ?_) (fun E h9 hx => hx.elim)
      obtain ⟨hv4, hI4⟩ := hp4
      rw [hv4]
      show V G F _ _ _ 60 [some (.ref (A 0)), some (.ref b), some (.ref (qo q)), some (.int (nI m)), some (.int (nI i))] [.int 1] h4
      refine V.if_ne hF (off := 5) (tgt := 65) (by decide +kernel) (by decide) (fun c2 => ?_) (fun c2 => ?_)
      · skip
        refine V.run hF [(.iinc 4 1, 3, .int 1), (.goto (-43), 3, .null)] (pc' := 25) (L' := [some (.ref (A 0)), some (.ref b), some (.ref (qo q)), some (.int (nI m)), some (.int ((nI i) + 1))]) (st' := []) (by decide +kernel) rfl ?_
        rw [nI_1 i]
        exact ih c1 h4 (hI4.cast (by omega) (by omega))
      · skip
        exact absurd c2 (by decide +kernel)
  refine V.run hF [(.istore_n 3, 1, .null), (.iconst 0, 1, .int (nI 0)), (.istore 4, 2, .null)] (pc' := 25) (L' := [some (.ref (A 0)), some (.ref b), some (.ref (qo q)), some (.int (nI m)), some (.int (nI 0))]) (st' := []) (by decide +kernel) rfl ?_
  refine V.less (kc' := 400 * (m - 0)) (ks' := 400 * (m - 0)) (by omega) (by omega) ?_
  exact loop 0 (Nat.zero_le _) _ hI0
end Bu
