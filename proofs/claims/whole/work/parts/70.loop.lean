/-! ===== the law's loop and its start ===== -/
theorem sw_dec : decode cL_law 40 = .ok (.tableswitch 1875 0 34 #[156, 212, 316, 396, 464, 520, 583, 646, 714, 770, 783, 796, 809, 822, 835, 898, 954, 1017, 1085, 1153, 1221, 1296, 1352, 1420, 1488, 1501, 1514, 1570, 1583, 1639, 1652, 1708, 1764, 1820, 1861], 156) := by decide +kernel
theorem LI_up {a b c k : Nat} {h : Hp} (hI : LI a b c k h) : LI a b c (k + 1) h := by
  obtain ⟨A, σ, P, r, B, x, u, md, hs, o, e1, e2, hC, hM, hR, hA, hy, rest⟩ := hI
  exact ⟨A, σ, P, r, B, x, u, md, hs, o, e1, e2, hC, hM, hR, hA.up (by omega), by omega, rest⟩
theorem cmp6 {n k : Nat} (hn : n ≤ 3072) (hk : k ≤ 600) : nI n - nI 6 < nI (6 * k) ↔ n < 6 * k + 6 := by
  rw [Int32.lt_iff_toInt_lt, pk_sub_toInt (by omega) (by decide), nI_toInt (by omega)]
  omega
section Lp
variable {G : Gt} {F : Ft} {Q : State → Prop} {sb n a b c : Nat} {xs : Nat → Int32}
set_option maxHeartbeats 8000000 in
theorem law_loop (hG : GOk G) (hN : GNc G) (hF : Ok G F RL cL_law 9 (some .boolean)) (hRm : fR F = { frames := 12, cells := 693274, slots := 7016281, locals := 448 }) (hX : SX G sb n xs) (hn : n ≤ 3072) (hend : ∀ kc ks L h, V G F Q kc ks 1922 L [.int 1] h) :
    ∀ j k, k + j ≤ 600 → n ≤ 6 * k + 6 * j + 5 → ∀ h, LI a b c k h → ∀ z5 z6 z7 z8, V G F Q (200 * j) (1200 * j) 23 [some (.ref sb), some (.ref a), some (.ref b), some (.ref c), some (.int (nI (6 * k))), z5, z6, z7, z8] [] h := by
  intro j
  induction j with
  | zero =>
    intro k hk hkn h hI z5 z6 z7 z8
    refine V.lo (L' := [some (.ref sb), some (.ref a), some (.ref b), some (.ref c), some (.int (nI (6 * k))), none, none, none, none]) (by simp [lsub]) ?_
    refine V.run hF [(.iload 4, 2, .null), (.aload_n 0, 1, .null)] (pc' := 26) (L' := [some (.ref sb), some (.ref a), some (.ref b), some (.ref c), some (.int (nI (6 * k))), none, none, none, none]) (st' := [.ref sb, .int (nI (6 * k))]) (by decide +kernel) rfl ?_
    refine V.slen hF hX (by decide +kernel) ?_
    refine V.run hF [(.bipush 6, 2, .int (nI 6)), (.isub, 1, .null)] (pc' := 30) (L' := [some (.ref sb), some (.ref a), some (.ref b), some (.ref c), some (.int (nI (6 * k))), none, none, none, none]) (st' := [.int (nI n - nI 6), .int (nI (6 * k))]) (by decide +kernel) rfl ?_
    refine V.icmp_gt hF (off := 1891) (tgt := 1921) (by decide +kernel) (by decide) (fun c1 => ?_) (fun c1 => ?_)
    · skip
      refine V.run hF [(.iconst 1, 1, .int 1)] (pc' := 1922) (L' := [some (.ref sb), some (.ref a), some (.ref b), some (.ref c), some (.int (nI (6 * k))), none, none, none, none]) (st' := [.int 1]) (by decide +kernel) rfl ?_
      exact hend _ _ _ _
    · skip
      exact absurd ((cmp6 hn (by omega)).mpr (by omega)) c1
  | succ j ih =>
    intro k hk hkn h hI z5 z6 z7 z8
    refine V.lo (L' := [some (.ref sb), some (.ref a), some (.ref b), some (.ref c), some (.int (nI (6 * k))), none, none, none, none]) (by simp [lsub]) ?_
    refine V.run hF [(.iload 4, 2, .null), (.aload_n 0, 1, .null)] (pc' := 26) (L' := [some (.ref sb), some (.ref a), some (.ref b), some (.ref c), some (.int (nI (6 * k))), none, none, none, none]) (st' := [.ref sb, .int (nI (6 * k))]) (by decide +kernel) rfl ?_
    refine V.slen hF hX (by decide +kernel) ?_
    refine V.run hF [(.bipush 6, 2, .int (nI 6)), (.isub, 1, .null)] (pc' := 30) (L' := [some (.ref sb), some (.ref a), some (.ref b), some (.ref c), some (.int (nI (6 * k))), none, none, none, none]) (st' := [.int (nI n - nI 6), .int (nI (6 * k))]) (by decide +kernel) rfl ?_
    refine V.icmp_gt hF (off := 1891) (tgt := 1921) (by decide +kernel) (by decide) (fun c1 => ?_) (fun c1 => ?_)
    · skip
      refine V.run hF [(.iconst 1, 1, .int 1)] (pc' := 1922) (L' := [some (.ref sb), some (.ref a), some (.ref b), some (.ref c), some (.int (nI (6 * k))), none, none, none, none]) (st' := [.int 1]) (by decide +kernel) rfl ?_
      exact hend _ _ _ _
    · skip
      have hi : 6 * k + 6 ≤ n := Nat.not_lt.mp fun q => c1 ((cmp6 hn (by omega)).mpr q)
      have go : ∀ h', LI a b c (k + 1) h' → ∀ z5 z6 z7 z8, V G F Q (200 * j) (1200 * j) 23 [some (.ref sb), some (.ref a), some (.ref b), some (.ref c), some (.int (nI (6 * (k + 1)))), z5, z6, z7, z8] [] h' := fun h' hI' z5 z6 z7 z8 => ih (k + 1) (by omega) (by omega) h' hI' z5 z6 z7 z8
      refine V.run hF [(.aload_n 0, 1, .null), (.iload 4, 2, .null)] (pc' := 36) (L' := [some (.ref sb), some (.ref a), some (.ref b), some (.ref c), some (.int (nI (6 * k))), none, none, none, none]) (st' := [.int (nI (6 * k)), .ref sb]) (by decide +kernel) rfl ?_
      refine V.sld (j := 6 * k) hF hX (by decide +kernel) (by omega) (by omega) ?_
      refine V.run hF [(.bipush 63, 2, .int (nI 63)), (.iand, 1, .null)] (pc' := 40) (L' := [some (.ref sb), some (.ref a), some (.ref b), some (.ref c), some (.int (nI (6 * k))), none, none, none, none]) (st' := [.int (xs (6 * k) &&& nI 63)]) (by decide +kernel) rfl ?_
      obtain ⟨q, hq, e⟩ : ∃ q, q < 64 ∧ xs (6 * k) &&& nI 63 = nI q := ⟨(xs (6 * k)).toBitVec.toNat % 2 ^ 6, by omega, pk_and _ 6 (by decide +kernel)⟩
      rw [e]
      refine V.less (kc' := 200 * j + 200) (ks' := 1200 * j + 1200) (by omega) (by omega) ?_
      have hc : q = 0 ∨ q = 1 ∨ q = 2 ∨ q = 3 ∨ q = 4 ∨ q = 5 ∨ q = 6 ∨ q = 7 ∨ q = 8 ∨ q = 9 ∨ q = 10 ∨ q = 11 ∨ q = 12 ∨ q = 13 ∨ q = 14 ∨ q = 15 ∨ q = 16 ∨ q = 17 ∨ q = 18 ∨ q = 19 ∨ q = 20 ∨ q = 21 ∨ q = 22 ∨ q = 23 ∨ q = 24 ∨ q = 25 ∨ q = 26 ∨ q = 27 ∨ q = 28 ∨ q = 29 ∨ q = 30 ∨ q = 31 ∨ q = 32 ∨ q = 33 ∨ q = 34 ∨ 35 ≤ q := by omega
      rcases hc with rfl | rfl | rfl | rfl | rfl | rfl | rfl | rfl | rfl | rfl | rfl | rfl | rfl | rfl | rfl | rfl | rfl | rfl | rfl | rfl | rfl | rfl | rfl | rfl | rfl | rfl | rfl | rfl | rfl | rfl | rfl | rfl | rfl | rfl | rfl | hc
      · exact V.tabIn hF (off := 156) (tgt := 196) sw_dec (by decide +kernel) (by decide +kernel) (by decide +kernel) (by decide) (lc_addTablet hG hN hF hRm hX hn hi hI go)
      · exact V.tabIn hF (off := 212) (tgt := 252) sw_dec (by decide +kernel) (by decide +kernel) (by decide +kernel) (by decide) (lc_write hG hN hF hRm hX hn hi hI go)
      · exact V.tabIn hF (off := 316) (tgt := 356) sw_dec (by decide +kernel) (by decide +kernel) (by decide +kernel) (by decide) (lc_pay hG hN hF hRm hX hn hi hI go)
      · exact V.tabIn hF (off := 396) (tgt := 436) sw_dec (by decide +kernel) (by decide +kernel) (by decide +kernel) (by decide) (lc_deny hG hN hF hRm hX hn hi hI go)
      · exact V.tabIn hF (off := 464) (tgt := 504) sw_dec (by decide +kernel) (by decide +kernel) (by decide +kernel) (by decide) (lc_smooth hG hN hF hRm hX hn hi hI go)
      · exact V.tabIn hF (off := 520) (tgt := 560) sw_dec (by decide +kernel) (by decide +kernel) (by decide +kernel) (by decide) (lc_turn hG hN hF hRm hX hn hi hI go)
      · exact V.tabIn hF (off := 583) (tgt := 623) sw_dec (by decide +kernel) (by decide +kernel) (by decide +kernel) (by decide) (lc_carry hG hN hF hRm hX hn hi hI go)
      · exact V.tabIn hF (off := 646) (tgt := 686) sw_dec (by decide +kernel) (by decide +kernel) (by decide +kernel) (by decide) (lc_setHeat hG hN hF hRm hX hn hi hI go)
      · exact V.tabIn hF (off := 714) (tgt := 754) sw_dec (by decide +kernel) (by decide +kernel) (by decide +kernel) (by decide) (lc_pass hG hN hF hRm hX hn hi hI go)
      · exact V.tabIn hF (off := 770) (tgt := 810) sw_dec (by decide +kernel) (by decide +kernel) (by decide +kernel) (by decide) (lc_year hG hN hF hRm hX hn hi hI go)
      · exact V.tabIn hF (off := 783) (tgt := 823) sw_dec (by decide +kernel) (by decide +kernel) (by decide +kernel) (by decide) (lc_tablets hG hN hF hRm hX hn hi hI go)
      · exact V.tabIn hF (off := 796) (tgt := 836) sw_dec (by decide +kernel) (by decide +kernel) (by decide +kernel) (by decide) (lc_lines hG hN hF hRm hX hn hi hI go)
      · exact V.tabIn hF (off := 809) (tgt := 849) sw_dec (by decide +kernel) (by decide +kernel) (by decide +kernel) (by decide) (lc_melted hG hN hF hRm hX hn hi hI go)
      · exact V.tabIn hF (off := 822) (tgt := 862) sw_dec (by decide +kernel) (by decide +kernel) (by decide +kernel) (by decide) (lc_denied hG hN hF hRm hX hn hi hI go)
      · exact V.tabIn hF (off := 835) (tgt := 875) sw_dec (by decide +kernel) (by decide +kernel) (by decide +kernel) (by decide) (lc_isThere hG hN hF hRm hX hn hi hI go)
      · exact V.tabIn hF (off := 898) (tgt := 938) sw_dec (by decide +kernel) (by decide +kernel) (by decide +kernel) (by decide) (lc_linesOf hG hN hF hRm hX hn hi hI go)
      · exact V.tabIn hF (off := 954) (tgt := 994) sw_dec (by decide +kernel) (by decide +kernel) (by decide +kernel) (by decide) (lc_isInCellar hG hN hF hRm hX hn hi hI go)
      · exact V.tabIn hF (off := 1017) (tgt := 1057) sw_dec (by decide +kernel) (by decide +kernel) (by decide +kernel) (by decide) (lc_debtorOf hG hN hF hRm hX hn hi hI go)
      · exact V.tabIn hF (off := 1085) (tgt := 1125) sw_dec (by decide +kernel) (by decide +kernel) (by decide +kernel) (by decide) (lc_creditorOf hG hN hF hRm hX hn hi hI go)
      · exact V.tabIn hF (off := 1153) (tgt := 1193) sw_dec (by decide +kernel) (by decide +kernel) (by decide +kernel) (by decide) (lc_amountOf hG hN hF hRm hX hn hi hI go)
      · exact V.tabIn hF (off := 1221) (tgt := 1261) sw_dec (by decide +kernel) (by decide +kernel) (by decide +kernel) (by decide) (lc_isWitnessed hG hN hF hRm hX hn hi hI go)
      · exact V.tabIn hF (off := 1296) (tgt := 1336) sw_dec (by decide +kernel) (by decide +kernel) (by decide +kernel) (by decide) (lc_has hG hN hF hRm hX hn hi hI go)
      · exact V.tabIn hF (off := 1352) (tgt := 1392) sw_dec (by decide +kernel) (by decide +kernel) (by decide +kernel) (by decide) (lc_hasOn hG hN hF hRm hX hn hi hI go)
      · exact V.tabIn hF (off := 1420) (tgt := 1460) sw_dec (by decide +kernel) (by decide +kernel) (by decide +kernel) (by decide) (lc_owes hG hN hF hRm hX hn hi hI go)
      · exact V.tabIn hF (off := 1488) (tgt := 1528) sw_dec (by decide +kernel) (by decide +kernel) (by decide +kernel) (by decide) (lc_total hG hN hF hRm hX hn hi hI go)
      · exact V.tabIn hF (off := 1501) (tgt := 1541) sw_dec (by decide +kernel) (by decide +kernel) (by decide +kernel) (by decide) (lc_richest hG hN hF hRm hX hn hi hI go)
      · exact V.tabIn hF (off := 1514) (tgt := 1554) sw_dec (by decide +kernel) (by decide +kernel) (by decide +kernel) (by decide) (lc_owesAlong hG hN hF hRm hX hn hi hI go)
      · exact V.tabIn hF (off := 1570) (tgt := 1610) sw_dec (by decide +kernel) (by decide +kernel) (by decide +kernel) (by decide) (lc_isRound hG hN hF hRm hX hn hi hI go)
      · exact V.tabIn hF (off := 1583) (tgt := 1623) sw_dec (by decide +kernel) (by decide +kernel) (by decide +kernel) (by decide) (lc_linesSmoothed hG hN hF hRm hX hn hi hI go)
      · exact V.tabIn hF (off := 1639) (tgt := 1679) sw_dec (by decide +kernel) (by decide +kernel) (by decide +kernel) (by decide) (lc_bestToSmooth hG hN hF hRm hX hn hi hI go)
      · exact V.tabIn hF (off := 1652) (tgt := 1692) sw_dec (by decide +kernel) (by decide +kernel) (by decide +kernel) (by decide) (lc_atRisk hG hN hF hRm hX hn hi hI go)
      · exact V.tabIn hF (off := 1708) (tgt := 1748) sw_dec (by decide +kernel) (by decide +kernel) (by decide +kernel) (by decide) (lc_yearsUntilMelted hG hN hF hRm hX hn hi hI go)
      · exact V.tabIn hF (off := 1764) (tgt := 1804) sw_dec (by decide +kernel) (by decide +kernel) (by decide +kernel) (by decide) (lc_meltsIn hG hN hF hRm hX hn hi hI go)
      · exact V.tabIn hF (off := 1820) (tgt := 1860) sw_dec (by decide +kernel) (by decide +kernel) (by decide +kernel) (by decide) (lc_meanAmount hG hN hF hRm hX hn hi hI go)
      · exact V.tabIn hF (off := 1861) (tgt := 1901) sw_dec (by decide +kernel) (by decide +kernel) (by decide +kernel) (by decide) (lc_digest hG hN hF hRm hX hn hi hI go)
      · refine V.tabOut hF (tgt := 1915) sw_dec (Or.inr (by
          rw [nI_toInt (by omega)]
          omega)) (by decide) ?_
        refine V.less (kc' := 200 * j) (ks' := 1200 * j) (by omega) (by omega) ?_
        refine V.run hF [(.iinc 4 6, 3, .int 6), (.goto (-1895), 3, .null)] (pc' := 23) (L' := [some (.ref sb), some (.ref a), some (.ref b), some (.ref c), some (.int ((nI (6 * k)) + 6)), none, none, none, none]) (st' := []) (by decide +kernel) rfl ?_
        rw [n6 k]
        exact go h (LI_up hI) _ _ _ _
theorem Am_0 : Am S0 (999 * ((0 : Nat) : Int)) := fun t ht => absurd ht (Nat.not_lt_zero t)
set_option maxHeartbeats 8000000 in
theorem law_start (hG : GOk G) (hN : GNc G) (hF : Ok G F RL cL_law 9 (some .boolean)) (hRm : fR F = { frames := 12, cells := 693274, slots := 7016281, locals := 448 }) (hX : SX G sb n xs) (hn : n ≤ 3072) (hend : ∀ kc ks L h, V G F Q kc ks 1922 L [.int 1] h) :
    V G F Q 693274 7016281 0 (entL 9 [.ref sb]) [] (fun _ => none) := by
  obtain ⟨kj, hkj⟩ : ∃ kj, kj = 200 * 512 := ⟨_, rfl⟩
  obtain ⟨sj, hsj⟩ : ∃ sj, sj = 1200 * 512 := ⟨_, rfl⟩
  refine V.less (kc' := kj + 1 + 7 + 1 + 11 + 1) (ks' := sj + 1 + 474 + 13 + 97 + 9) (by omega) (by omega) ?_
  obtain ⟨h, hh⟩ : ∃ h : Hp, h = fun _ => none := ⟨_, rfl⟩
  rw [← hh]
  refine V.new hG hF k_RL_8 (by decide +kernel) (fun q1 hq_q1 => ?_)
  obtain ⟨h_1, gh1⟩ : ∃ z : Hp, z = hset h q1 (.inr (3, [.null, .null, .null, .null, .null, .int 0, .int 0, .int 0, .int 0])) := ⟨_, rfl⟩
  refine V.hp gh1 ?_
  have gk1 : ∀ q : Nat, q ≠ q1 → h_1 q = h q := fun q hq => by rw [gh1]; exact hset_ne hq
  have gs1 : h_1 q1 = some (.inr (3, [.null, .null, .null, .null, .null, .int 0, .int 0, .int 0, .int 0])) := by rw [gh1]; exact hset_eq
  refine V.run hF [(.dup, 1, .null)] (pc' := 4) (L' := [some (.ref sb), none, none, none, none, none, none, none, none]) (st' := [.ref q1, .ref q1]) (by decide +kernel) rfl ?_
  refine V.less (kc' := kj + 9 + 11) (ks' := sj + 488 + 97) (by omega) (by omega) ?_
  refine V.callI (As := []) (st := [.ref q1]) hG hF k_RL_93 (by decide +kernel) (c_X3_init hG gs1) rfl ⟨by rw [hRm]; decide, by rw [hRm]; decide⟩ (Nat.le_of_ble_eq_true rfl) rfl (fun v1 h2 hp => ?_)
  obtain ⟨rfl, A, eA, hC, fA, kA⟩ := hp
  show V G F _ _ _ 7 [some (.ref sb), none, none, none, none, none, none, none, none] [.ref q1] h2
  refine V.run hF [(.astore_n 1, 1, .null)] (pc' := 8) (L' := [some (.ref sb), some (.ref q1), none, none, none, none, none, none, none]) (st' := []) (by decide +kernel) rfl ?_
  refine V.less (kc' := kj + 8 + 1) (ks' := sj + 475 + 13) (by omega) (by omega) ?_
  refine V.new hG hF k_RL_94 (by decide +kernel) (fun q2 hq_q2 => ?_)
  obtain ⟨h_3, gh3⟩ : ∃ z : Hp, z = hset h2 q2 (.inr (4, [.int 0, .int 0, .int 0, .null, .null, .null, .null, .null, .int 0, .int 0, .int 0, .null, .null])) := ⟨_, rfl⟩
  refine V.hp gh3 ?_
  have gk3 : ∀ q : Nat, q ≠ q2 → h_3 q = h2 q := fun q hq => by rw [gh3]; exact hset_ne hq
  have gs3 : h_3 q2 = some (.inr (4, [.int 0, .int 0, .int 0, .null, .null, .null, .null, .null, .int 0, .int 0, .int 0, .null, .null])) := by rw [gh3]; exact hset_eq
  refine V.run hF [(.dup, 1, .null)] (pc' := 12) (L' := [some (.ref sb), some (.ref q1), none, none, none, none, none, none, none]) (st' := [.ref q2, .ref q2]) (by decide +kernel) rfl ?_
  refine V.less (kc' := kj + 1 + 7) (ks' := sj + 1 + 474) (by omega) (by omega) ?_
  have ks2 := gs3
  refine V.callI (As := []) (st := [.ref q2]) hG hF k_RL_96 (by decide +kernel) (c_X4_init hG gs3) rfl ⟨by rw [hRm]; decide, by rw [hRm]; decide⟩ (Nat.le_of_ble_eq_true rfl) rfl (fun v2 h4 hp => ?_)
  obtain ⟨rfl, B, eB, hM, fB, kB⟩ := hp
  have lA : ∀ i, i < nA S0 → ∃ ce, h2 (A i) = some ce := fun i hi => hC.live hi
  have nq : ∀ i, i < nA S0 → A i ≠ q2 := fun i hi z => by
    obtain ⟨ce, hce⟩ := lA i hi
    rw [z, hq_q2] at hce
    cases hce
  have l3 : ∀ i, i < nA S0 → h_3 (A i) = h2 (A i) := fun i hi => gk3 _ (nq i hi)
  have dAB : ∀ i j, i < nA S0 → j < 8 → A i ≠ B j := fun i j hi hj z => by
    obtain ⟨ce, hce⟩ := lA i hi
    by_cases j0 : j = 0
    · rw [j0, eB] at z
      exact nq i hi z
    · have := fB j (by omega) hj
      rw [← z, l3 i hi, hce] at this
      cases this
  have l4 : ∀ i, i < nA S0 → h4 (A i) = h2 (A i) := fun i hi => (kB _ (fun j hj => dAB i j hi hj)).trans (l3 i hi)
  show V G F _ _ _ 15 [some (.ref sb), some (.ref q1), none, none, none, none, none, none, none] [.ref q2] h4
  refine V.run hF [(.astore_n 2, 1, .null), (.iconst 1, 1, .int 1)] (pc' := 17) (L' := [some (.ref sb), some (.ref q1), some (.ref q2), none, none, none, none, none, none]) (st' := [.int 1]) (by decide +kernel) rfl ?_
  refine V.less (kc' := kj + 1) (ks' := sj + 1) (by omega) (by omega) ?_
  refine V.newa (aty := .long) (t := 2) (N := 1) (a0 := (1, .inr (.inl (fun _ => 0)))) hG hF (by decide) rfl tw_arr_2.1 (by decide +kernel) (by decide) (by decide) (by decide) (fun _ => rfl) (fun e hq_e => ?_)
  obtain ⟨h_5, gh5⟩ : ∃ z : Hp, z = hset h4 e (.inl (2, 1, .inr (.inl (fun _ => 0)))) := ⟨_, rfl⟩
  refine V.hp gh5 ?_
  have gk5 : ∀ q : Nat, q ≠ e → h_5 q = h4 q := fun q hq => by rw [gh5]; exact hset_ne hq
  have gs5 : h_5 e = some (.inl (2, 1, .inr (.inl (fun _ => 0)))) := by rw [gh5]; exact hset_eq
  have nAe : ∀ i, i < nA S0 → A i ≠ e := fun i hi z => by
    obtain ⟨ce, hce⟩ := lA i hi
    rw [← l4 i hi, z, hq_e] at hce
    cases hce
  have nBe : ∀ j, j < 8 → B j ≠ e := fun j hj z => by
    obtain ⟨ce, hce⟩ := hM.live hj
    rw [z, hq_e] at hce
    cases hce
  have hI : LI q1 q2 e 0 h_5 := ⟨A, S0, PS0, _, B, 0, u0, _, _, _, eA, eB, hC.same (fun i hi => (gk5 _ (nAe i hi)).trans (l4 i hi)), hM.mv (fun j hj => gk5 _ (nBe j hj)), RM_0, Am_0, Nat.zero_le _, gs5, dAB, nAe, nBe⟩
  refine V.run hF [(.astore_n 3, 1, .null), (.iconst 0, 1, .int (nI 0)), (.istore 4, 2, .null)] (pc' := 23) (L' := [some (.ref sb), some (.ref q1), some (.ref q2), some (.ref e), some (.int (nI 0)), none, none, none, none]) (st' := []) (by decide +kernel) rfl ?_
  rw [hkj, hsj]
  exact law_loop hG hN hF hRm hX hn hend 512 0 (by decide) (by omega) _ hI none none none none
end Lp
