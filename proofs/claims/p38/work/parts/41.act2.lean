/-! ===== act: years, a tablet, a line ===== -/
section Ad
variable {G : Gt} {h : Hp} {A : Nat → Nat} {q : QA} {σ : Sg} {P : PS} {r : Nat → Int32} {S : Int} {Y : Nat} {x : Int32} {F : Ft}
set_option maxHeartbeats 4000000 in
theorem ac_pass (hG : GOk G) (hF : Ok G F RL cL_act 19 (some .boolean)) (hRm : acR F) (hC : CS h A σ P r) (hS : SM h q σ) (hO : SO A q) (hR : RI σ) (hA : Am σ S) (hgy : gy σ ≤ Y) (h0 : 0 ≤ S) (hY : Y ≤ 100000) {L3 L4 L5 L6 L7 L8 L9 : Option Value} :
    V G F (fin G F (actP (A 0) (qo q) S Y) pxN) 400 400 596 [some (.ref (A 0)), some (.ref (qo q)), some (.int x), L3, L4, L5, L6, L7, L8, L9, none, none, none, none, none, none, none, none, none] [] h := by
  obtain ⟨s1, s2, s3, -⟩ := id hS
  obtain ⟨-, hT8, gA0, -⟩ := id hC
  refine V.loc (L' := [some (.ref (A 0)), some (.ref (qo q)), some (.int x), none, none, none, none, none, none, none, none, none, none, none, none, none, none, none, none]) (fun j v hv => by
    match j, hv with
    | 0, hv => exact hv
    | 1, hv => exact hv
    | 2, hv => exact hv
    | 3, hv => cases hv
    | 4, hv => cases hv
    | 5, hv => cases hv
    | 6, hv => cases hv
    | 7, hv => cases hv
    | 8, hv => cases hv
    | 9, hv => cases hv
    | 10, hv => cases hv
    | 11, hv => cases hv
    | 12, hv => cases hv
    | 13, hv => cases hv
    | 14, hv => cases hv
    | 15, hv => cases hv
    | 16, hv => cases hv
    | 17, hv => cases hv
    | 18, hv => cases hv
    | zz + 19, hv => cases hv) ?_
  refine V.run hF [(.iconst 1, 1, .int (nI 1)), (.iload_n 2, 1, .null), (.iconst 2, 1, .int 2), (.ishr, 1, .null), (.iload_n 2, 1, .null), (.bipush 9, 2, .int (nI 9))] (pc' := 603) (L' := [some (.ref (A 0)), some (.ref (qo q)), some (.int x), none, none, none, none, none, none, none, none, none, none, none, none, none, none, none, none]) (st' := [.int (nI 9), .int x, .int (x >>> (2 &&& 31)), .int (nI 1)]) (by decide +kernel) rfl ?_
  refine V.callS (As := [.int x, .int (nI 9)]) (st := [.int (x >>> (2 &&& 31)), .int (nI 1)]) hG hF k_RL_15 (by decide +kernel) (c_L_below hG x (n := 9) (by omega) (by omega)) rfl ⟨by rw [hRm]; decide, by rw [hRm]; decide⟩ (Nat.le_of_ble_eq_true rfl) rfl (fun v h_1 gp1 => ?_) (fun E h9 hx => hx.elim)
  obtain ⟨rfl, he_gp1⟩ := gp1
  rw [he_gp1]
  show V G F _ _ _ 606 [some (.ref (A 0)), some (.ref (qo q)), some (.int x), none, none, none, none, none, none, none, none, none, none, none, none, none, none, none, none] [.int (nI (bl x 9)), .int (x >>> (2 &&& 31)), .int (nI 1)] h
  obtain ⟨b, hb⟩ : ∃ z : Nat, z = bl x 9 := ⟨_, rfl⟩
  rw [← hb]
  have lt_b : b < 9 := by rw [hb]; exact Nat.mod_lt _ (by omega)
  -- from 621 on, n years
  have rest : ∀ n, 1 ≤ n → n ≤ 40 → V G F (fin G F (actP (A 0) (qo q) S Y) pxN) 400 400 619 [some (.ref (A 0)), some (.ref (qo q)), some (.int x), none, none, none, none, none, none, none, none, none, none, none, none, none, none, none, none] [.int (nI n)] h := by
    intro n n1 n40
    refine V.run hF [(.istore 15, 2, .null), (.aload_n 0, 1, .null), (.iload 15, 2, .null)] (pc' := 624) (L' := [some (.ref (A 0)), some (.ref (qo q)), some (.int x), none, none, none, none, none, none, none, none, none, none, none, none, some (.int (nI n)), none, none, none]) (st' := [.int (nI n), .ref (A 0)]) (by decide +kernel) rfl ?_
    have hin : inY (nI n) := ⟨fun z => by
      have := (nI_ltI (a := n) (b := 1) (by omega) (by decide)).mp z
      omega, (nI_leI (a := n) (b := 40) (by omega) (by decide)).mpr n40⟩
    refine V.less (kc' := 399 + 1) (ks' := 394 + 6) (by decide) (by decide) ?_
    refine V.callV (As := [.int (nI n)]) (st := []) hG hF k_RL_79 (by decide +kernel) (c_X3_pass hG hC (by omega) (nI n)) gA0 rfl rfl ⟨by rw [hRm]; decide, by rw [hRm]; decide⟩ (Nat.le_of_ble_eq_true rfl) rfl (fun v h3 hp3 => ?_) (fun E h9 hx => (hx.2.1 hin).elim)
    obtain ⟨n', hn', en, -, hv, hC3, hk3⟩ := hp3
    have en : n = n' := (nI_eq (by omega) (by omega)).mp en
    subst en
    have hS3 := hS.kp hC hO hk3
    rw [hv]
    obtain ⟨u1, -⟩ := id hS3
    show V G F _ _ _ 627 [some (.ref (A 0)), some (.ref (qo q)), some (.int x), none, none, none, none, none, none, none, none, none, none, none, none, some (.int (nI n)), none, none, none] [.int (goN n σ)] h3
    refine V.run hF [(.aload_n 1, 1, .null), (.iload 15, 2, .null)] (pc' := 630) (L' := [some (.ref (A 0)), some (.ref (qo q)), some (.int x), none, none, none, none, none, none, none, none, none, none, none, none, some (.int (nI n)), none, none, none]) (st' := [.int (nI n), .ref (qo q), .int (goN n σ)]) (by decide +kernel) rfl ?_
    refine V.less (kc' := 79 + 320) (ks' := 394 + 0) (by decide) (by decide) ?_
    refine V.callV (As := [.int (nI n)]) (st := [.int (goN n σ)]) hG hF k_RL_82 (by decide +kernel) (c_X4_pass hG hS3 hT8 hn' (by omega)) u1 rfl rfl ⟨by rw [hRm]; decide, by rw [hRm]; decide⟩ (Nat.le_of_ble_eq_true rfl) rfl (fun v4 h4 hp4 => ?_) (fun E h9 hx => hx.elim)
    obtain ⟨hv4, la, rr, hS4, hf4⟩ := hp4
    rw [hv4]
    show V G F _ _ _ 633 [some (.ref (A 0)), some (.ref (qo q)), some (.int x), none, none, none, none, none, none, none, none, none, none, none, none, some (.int (nI n)), none, none, none] [.int (goN n σ), .int (goN n σ)] h4
    obtain ⟨gli, s6, -⟩ := id hS3.2.2.2.2.1
    have hC4 : CS h4 A (sPass σ n) P r := hC3.same fun i hi => by
      have hi' : i < 12 + 6 * gT σ := by
        have e : gT (sPass σ n) = gT σ := yrN_T n σ
        rw [e] at hi
        exact hi
      obtain ⟨c, hc⟩ := hC3.live hi
      have o1 := hS3.o1 hC3 i hi
      have o6 := hS3.o6 hC3 i hi
      rw [hc, hf4 _ _ hc (Ne.symm o1) (Ne.symm o6)]
    have hyy : gy (sPass σ n) ≤ Y + 40 := by
      show gy σ + n ≤ Y + 40
      omega
    refine V.icmp_ne hF (off := 7) (tgt := 640) (by decide +kernel) (by decide) (fun c1 => ?_) (fun c1 => ?_)
    · exact absurd rfl c1
    · skip
      refine V.run hF [(.iconst 1, 1, .int 1), (.goto 4, 3, .null)] (pc' := 641) (L' := [some (.ref (A 0)), some (.ref (qo q)), some (.int x), none, none, none, none, none, none, none, none, none, none, none, none, some (.int (nI n)), none, none, none]) (st' := [.int 1]) (by decide +kernel) rfl ?_
      exact V.retz hF (by decide +kernel) rfl ⟨rfl, A, ql q la rr, _, _, _, rfl, rfl, hC4, hS4, hO, hR.ps, (hA.ps h0).up (by omega), hyy⟩
  refine V.if_ne hF (off := 8) (tgt := 614) (by decide +kernel) (by decide) (fun c1 => ?_) (fun c1 => ?_)
  · skip
    refine V.run hF [(.iconst 3, 1, .int 3)] (pc' := 615) (L' := [some (.ref (A 0)), some (.ref (qo q)), some (.int x), none, none, none, none, none, none, none, none, none, none, none, none, none, none, none, none]) (st' := [.int 3, .int (x >>> (2 &&& 31)), .int (nI 1)]) (by decide +kernel) rfl ?_
    refine V.callS (As := [.int (x >>> (2 &&& 31)), .int (nI 3)]) (st := [.int (nI 1)]) hG hF k_RL_15 (by decide +kernel) (c_L_below hG (x >>> (2 &&& 31)) (n := 3) (by omega) (by omega)) rfl ⟨by rw [hRm]; decide, by rw [hRm]; decide⟩ (Nat.le_of_ble_eq_true rfl) rfl (fun v h_4 gp4 => ?_) (fun E h9 hx => hx.elim)
    obtain ⟨rfl, he_gp4⟩ := gp4
    rw [he_gp4]
    show V G F _ _ _ 618 [some (.ref (A 0)), some (.ref (qo q)), some (.int x), none, none, none, none, none, none, none, none, none, none, none, none, none, none, none, none] [.int (nI (bl (x >>> (2 &&& 31)) 3)), .int (nI 1)] h
    obtain ⟨k, hk⟩ : ∃ z : Nat, z = bl (x >>> (2 &&& 31)) 3 := ⟨_, rfl⟩
    rw [← hk]
    have lt_k : k < 3 := by rw [hk]; exact Nat.mod_lt _ (by omega)
    refine V.run hF [(.iadd, 1, .null)] (pc' := 619) (L' := [some (.ref (A 0)), some (.ref (qo q)), some (.int x), none, none, none, none, none, none, none, none, none, none, none, none, none, none, none, none]) (st' := [.int (nI 1 + nI k)]) (by decide +kernel) rfl ?_
    rw [nI_add 1 k]
    exact rest (1 + k) (by omega) (by omega)
  · skip
    refine V.run hF [(.bipush 40, 2, .int (nI 40)), (.goto 4, 3, .null)] (pc' := 615) (L' := [some (.ref (A 0)), some (.ref (qo q)), some (.int x), none, none, none, none, none, none, none, none, none, none, none, none, none, none, none, none]) (st' := [.int (nI 40), .int (x >>> (2 &&& 31)), .int (nI 1)]) (by decide +kernel) rfl ?_
    refine V.callS (As := [.int (x >>> (2 &&& 31)), .int (nI 40)]) (st := [.int (nI 1)]) hG hF k_RL_15 (by decide +kernel) (c_L_below hG (x >>> (2 &&& 31)) (n := 40) (by omega) (by omega)) rfl ⟨by rw [hRm]; decide, by rw [hRm]; decide⟩ (Nat.le_of_ble_eq_true rfl) rfl (fun v h_5 gp5 => ?_) (fun E h9 hx => hx.elim)
    obtain ⟨rfl, he_gp5⟩ := gp5
    rw [he_gp5]
    show V G F _ _ _ 618 [some (.ref (A 0)), some (.ref (qo q)), some (.int x), none, none, none, none, none, none, none, none, none, none, none, none, none, none, none, none] [.int (nI (bl (x >>> (2 &&& 31)) 40)), .int (nI 1)] h
    obtain ⟨k, hk⟩ : ∃ z : Nat, z = bl (x >>> (2 &&& 31)) 40 := ⟨_, rfl⟩
    rw [← hk]
    have lt_k : k < 40 := by rw [hk]; exact Nat.mod_lt _ (by omega)
    refine V.run hF [(.iadd, 1, .null)] (pc' := 619) (L' := [some (.ref (A 0)), some (.ref (qo q)), some (.int x), none, none, none, none, none, none, none, none, none, none, none, none, none, none, none, none]) (st' := [.int (nI 1 + nI k)]) (by decide +kernel) rfl ?_
    rw [nI_add 1 k]
    exact rest (1 + k) (by omega) (by omega)
set_option maxHeartbeats 4000000 in
theorem ac_add (hG : GOk G) (hF : Ok G F RL cL_act 19 (some .boolean)) (hRm : acR F) (hC : CS h A σ P r) (hS : SM h q σ) (hO : SO A q) (hR : RI σ) (hA : Am σ S) (hgy : gy σ ≤ Y) (h0 : 0 ≤ S) (hT : gT σ < 8) {L4 : Option Value} :
    V G F (fin G F (actP (A 0) (qo q) S Y) pxN) 400 400 34 [some (.ref (A 0)), some (.ref (qo q)), some (.int x), some (.int (nI (gT σ))), L4, none, none, none, none, none, none, none, none, none, none, none, none, none, none] [] h := by
  obtain ⟨s1, s2, s3, ⟨g1, s4, s5⟩, -⟩ := id hS
  have nta : qta q ≠ qo q := nek s4 s1 nofun
  refine V.loc (L' := [some (.ref (A 0)), some (.ref (qo q)), some (.int x), some (.int (nI (gT σ))), none, none, none, none, none, none, none, none, none, none, none, none, none, none, none]) (fun j v hv => by
    match j, hv with
    | 0, hv => exact hv
    | 1, hv => exact hv
    | 2, hv => exact hv
    | 3, hv => exact hv
    | 4, hv => cases hv
    | 5, hv => cases hv
    | 6, hv => cases hv
    | 7, hv => cases hv
    | 8, hv => cases hv
    | 9, hv => cases hv
    | 10, hv => cases hv
    | 11, hv => cases hv
    | 12, hv => cases hv
    | 13, hv => cases hv
    | 14, hv => cases hv
    | 15, hv => cases hv
    | 16, hv => cases hv
    | 17, hv => cases hv
    | 18, hv => cases hv
    | zz + 19, hv => cases hv) ?_
  refine V.run hF [(.aload_n 1, 1, .null), (.aload_n 1, 1, .null)] (pc' := 36) (L' := [some (.ref (A 0)), some (.ref (qo q)), some (.int x), some (.int (nI (gT σ))), none, none, none, none, none, none, none, none, none, none, none, none, none, none, none]) (st' := [.ref (qo q), .ref (qo q)]) (by decide +kernel) rfl ?_
  refine V.getf hG hF k_RL_9 (by decide +kernel) s1 rfl ?_
  refine V.run hF [(.iconst 2, 1, .int (nI 2))] (pc' := 40) (L' := [some (.ref (A 0)), some (.ref (qo q)), some (.int x), some (.int (nI (gT σ))), none, none, none, none, none, none, none, none, none, none, none, none, none, none, none]) (st' := [.int (nI 2), .ref (qta q), .ref (qo q)]) (by decide +kernel) rfl ?_
  refine V.less (kc' := 398 + 1) (ks' := 398 + 2) (by decide) (by decide) ?_
  refine V.newa (aty := .int) (t := 0) (N := 2) (a0 := (2, .inl (fun _ => 0))) hG hF (by decide) rfl tw_arr_0.1 (by decide +kernel) (by decide) (by decide) (by decide) (fun _ => rfl) (fun b hq_b => ?_)
  have ne_qoq_b : (qo q) ≠ b := ne_new s1 hq_b
  obtain ⟨h_1, gh1⟩ : ∃ z : Hp, z = hset h b (.inl (0, 2, .inl (fun _ => 0))) := ⟨_, rfl⟩
  refine V.hp gh1 ?_
  have gk1 : ∀ zq : Nat, zq ≠ b → h_1 zq = h zq := fun zq hq => by rw [gh1]; exact hset_ne hq
  have gs1 : h_1 b = some (.inl (0, 2, .inl (fun _ => 0))) := by rw [gh1]; exact hset_eq
  refine V.run hF [(.dup, 1, .null), (.iconst 0, 1, .int (nI 0)), (.iconst 1, 1, .int (nI 1)), (.iload_n 2, 1, .null), (.iconst 2, 1, .int 2), (.ishr, 1, .null), (.bipush 9, 2, .int (nI 9))] (pc' := 50) (L' := [some (.ref (A 0)), some (.ref (qo q)), some (.int x), some (.int (nI (gT σ))), none, none, none, none, none, none, none, none, none, none, none, none, none, none, none]) (st' := [.int (nI 9), .int (x >>> (2 &&& 31)), .int (nI 1), .int (nI 0), .ref b, .ref b, .ref (qta q), .ref (qo q)]) (by decide +kernel) rfl ?_
  refine V.callS (As := [.int (x >>> (2 &&& 31)), .int (nI 9)]) (st := [.int (nI 1), .int (nI 0), .ref b, .ref b, .ref (qta q), .ref (qo q)]) hG hF k_RL_15 (by decide +kernel) (c_L_below hG (x >>> (2 &&& 31)) (n := 9) (by omega) (by omega)) rfl ⟨by rw [hRm]; decide, by rw [hRm]; decide⟩ (Nat.le_of_ble_eq_true rfl) rfl (fun v h_2 gp2 => ?_) (fun E h9 hx => hx.elim)
  obtain ⟨rfl, he_gp2⟩ := gp2
  rw [he_gp2]
  show V G F _ _ _ 53 [some (.ref (A 0)), some (.ref (qo q)), some (.int x), some (.int (nI (gT σ))), none, none, none, none, none, none, none, none, none, none, none, none, none, none, none] [.int (nI (bl (x >>> (2 &&& 31)) 9)), .int (nI 1), .int (nI 0), .ref b, .ref b, .ref (qta q), .ref (qo q)] h_1
  obtain ⟨k, hk⟩ : ∃ z : Nat, z = bl (x >>> (2 &&& 31)) 9 := ⟨_, rfl⟩
  rw [← hk]
  have lt_k : k < 9 := by rw [hk]; exact Nat.mod_lt _ (by omega)
  refine V.run hF [(.iadd, 1, .null)] (pc' := 54) (L' := [some (.ref (A 0)), some (.ref (qo q)), some (.int x), some (.int (nI (gT σ))), none, none, none, none, none, none, none, none, none, none, none, none, none, none, none]) (st' := [.int (nI 1 + nI k), .int (nI 0), .ref b, .ref b, .ref (qta q), .ref (qo q)]) (by decide +kernel) rfl ?_
  rw [nI_add 1 k]
  refine V.iastN (j := 0) hG hF (by decide +kernel) gs1 (by omega) (by first | decide | omega) ?_
  obtain ⟨h_3, gh3⟩ : ∃ z : Hp, z = hset h_1 b (.inl (0, 2, .inl (upd (fun _ => 0) 0 (nI (1 + k))))) := ⟨_, rfl⟩
  refine V.hp gh3 ?_
  have gk3 : ∀ zq : Nat, zq ≠ b → h_3 zq = h_1 zq := fun zq hq => by rw [gh3]; exact hset_ne hq
  have gs3 : h_3 b = some (.inl (0, 2, .inl (upd (fun _ => 0) 0 (nI (1 + k))))) := by rw [gh3]; exact hset_eq
  refine V.run hF [(.dup, 1, .null), (.iconst 1, 1, .int (nI 1)), (.iconst 0, 1, .int 0)] (pc' := 58) (L' := [some (.ref (A 0)), some (.ref (qo q)), some (.int x), some (.int (nI (gT σ))), none, none, none, none, none, none, none, none, none, none, none, none, none, none, none]) (st' := [.int 0, .int (nI 1), .ref b, .ref b, .ref (qta q), .ref (qo q)]) (by decide +kernel) rfl ?_
  refine V.iastN (j := 1) hG hF (by decide +kernel) gs3 (by omega) (by first | decide | omega) ?_
  obtain ⟨h_4, gh4⟩ : ∃ z : Hp, z = hset h_3 b (.inl (0, 2, .inl (upd (upd (fun _ => 0) 0 (nI (1 + k))) 1 0))) := ⟨_, rfl⟩
  refine V.hp gh4 ?_
  have gk4 : ∀ zq : Nat, zq ≠ b → h_4 zq = h_3 zq := fun zq hq => by rw [gh4]; exact hset_ne hq
  have gs4 : h_4 b = some (.inl (0, 2, .inl (upd (upd (fun _ => 0) 0 (nI (1 + k))) 1 0))) := by rw [gh4]; exact hset_eq
  have xb : Ex h h_4 := fun y c hc => by
    have n := ne_new hc hq_b
    rw [gk4 y n, gk3 y n, gk1 y n]
    exact hc
  have cb := gs4
  refine V.less (kc' := 397 + 1) (ks' := 385 + 13) (by decide) (by decide) ?_
  refine V.callS (As := [.ref (qta q), .ref b]) (st := [.ref (qo q)]) hG hF k_RL_21 (by decide +kernel) (c_X4_with hG (xb _ _ s4) (fun j hj => by obtain ⟨e1, f, e2, -⟩ := s5 j hj; exact ⟨qtr q j, _, e1, xb _ _ e2⟩) cb (by omega)) rfl ⟨by rw [hRm]; decide, by rw [hRm]; decide⟩ (Nat.le_of_ble_eq_true rfl) rfl (fun v h3 hp3 => ?_) (fun E h9 hx => hx.elim)
  obtain ⟨a, g', hv, a1, a2, a3, a4, a5⟩ := hp3
  rw [hv]
  have x3 : Ex h h3 := xb.tr (Ex.new a1 a5)
  show V G F _ _ _ 62 [some (.ref (A 0)), some (.ref (qo q)), some (.int x), some (.int (nI (gT σ))), none, none, none, none, none, none, none, none, none, none, none, none, none, none, none] [.ref a, .ref (qo q)] h3
  refine V.putf hG hF k_RL_9 (by decide +kernel) (x3 _ _ s1) (fun C T N hc => by cases hc; exact ⟨rfl, (.array (.array .int)), by decide +kernel, rfl, rfl⟩) (Nat.le_of_ble_eq_true rfl) ?_
  obtain ⟨h_6, gh6⟩ : ∃ z : Hp, z = hset h3 (qo q) (.inr (4, [.ref (qth q), .ref (qhe q), .ref a, .ref (qli q), .int (nI (gy σ)), .int (gme σ), .int (gde σ)])) := ⟨_, rfl⟩
  refine V.hp gh6 ?_
  have gk6 : ∀ zq : Nat, zq ≠ (qo q) → h_6 zq = h3 zq := fun zq hq => by rw [gh6]; exact hset_ne hq
  have gs6 : h_6 (qo q) = some (.inr (4, [.ref (qth q), .ref (qhe q), .ref a, .ref (qli q), .int (nI (gy σ)), .int (gme σ), .int (gde σ)])) := by rw [gh6]; exact hset_eq
  have nao : a ≠ qo q := nek a2 (x3 _ _ s1) nofun
  have nbo : b ≠ qo q := Ne.symm (ne_new s1 hq_b)
  have nba : b ≠ a := ne_new cb a1
  have ew : Exw (qo q) h h_6 := fun y c hc hy => (gk6 y hy).trans (x3 y c hc)
  have hS2 := hS.add (x := nI (1 + k)) s4 gs6 ((gk6 _ nao).trans a2) (fun t ht => a3 t ht) a4 ((gk6 _ nbo).trans ((a5 _ nba).trans cb)) rfl rfl hq_b ew
  have hC2 := hC.exw ew (hS.o1 hC)
  obtain ⟨-, -, gA2, -⟩ := id hC2
  refine V.run hF [(.aload_n 0, 1, .null), (.iconst 1, 1, .int (nI 1)), (.iload_n 2, 1, .null), (.iconst 2, 1, .int 2), (.ishr, 1, .null), (.bipush 9, 2, .int (nI 9))] (pc' := 72) (L' := [some (.ref (A 0)), some (.ref (qo q)), some (.int x), some (.int (nI (gT σ))), none, none, none, none, none, none, none, none, none, none, none, none, none, none, none]) (st' := [.int (nI 9), .int (x >>> (2 &&& 31)), .int (nI 1), .ref (A 0)]) (by decide +kernel) rfl ?_
  refine V.callS (As := [.int (x >>> (2 &&& 31)), .int (nI 9)]) (st := [.int (nI 1), .ref (A 0)]) hG hF k_RL_15 (by decide +kernel) (c_L_below hG (x >>> (2 &&& 31)) (n := 9) (by omega) (by omega)) rfl ⟨by rw [hRm]; decide, by rw [hRm]; decide⟩ (Nat.le_of_ble_eq_true rfl) rfl (fun v h_7 gp7 => ?_) (fun E h9 hx => hx.elim)
  obtain ⟨rfl, he_gp7⟩ := gp7
  rw [he_gp7]
  show V G F _ _ _ 75 [some (.ref (A 0)), some (.ref (qo q)), some (.int x), some (.int (nI (gT σ))), none, none, none, none, none, none, none, none, none, none, none, none, none, none, none] [.int (nI (bl (x >>> (2 &&& 31)) 9)), .int (nI 1), .ref (A 0)] h_6
  obtain ⟨k2, hk2⟩ : ∃ z : Nat, z = bl (x >>> (2 &&& 31)) 9 := ⟨_, rfl⟩
  rw [← hk2]
  have lt_k2 : k2 < 9 := by rw [hk2]; exact Nat.mod_lt _ (by omega)
  have ek : k2 = k := hk2.trans hk.symm
  subst ek
  refine V.run hF [(.iadd, 1, .null)] (pc' := 76) (L' := [some (.ref (A 0)), some (.ref (qo q)), some (.int x), some (.int (nI (gT σ))), none, none, none, none, none, none, none, none, none, none, none, none, none, none, none]) (st' := [.int (nI 1 + nI k2), .ref (A 0)]) (by decide +kernel) rfl ?_
  rw [nI_add 1 k2]
  have hin : inHa (nI (1 + k2)) := ⟨fun z => by
    have := (nI_ltI (a := 1 + k2) (b := 1) (by omega) (by decide)).mp z
    omega, (nI_leI (a := 1 + k2) (b := 9) (by omega) (by decide)).mpr (by omega)⟩
  refine V.less (kc' := 391 + 6) (ks' := 329 + 56) (by decide) (by decide) ?_
  refine V.callV (As := [.int (nI (1 + k2))]) (st := []) hG hF k_RL_25 (by decide +kernel) (c_X3_addTablet hG hC2 (nI (1 + k2))) gA2 rfl rfl ⟨by rw [hRm]; decide, by rw [hRm]; decide⟩ (Nat.le_of_ble_eq_true rfl) rfl (fun v4 h4 hp4 => ?_) (fun E h9 hx => (hx.1.elim (fun z => z.2 hin) (fun z => z.2.2 hT)).elim)
  obtain ⟨-, -, hv4, A', i1, i2, hC4, hk4⟩ := hp4
  rw [hv4]
  show V G F _ _ _ 79 [some (.ref (A 0)), some (.ref (qo q)), some (.int x), some (.int (nI (gT σ))), none, none, none, none, none, none, none, none, none, none, none, none, none, none, none] [.int (nI (gT σ))] h4
  have A0 : A' 0 = A 0 := i1 0 (by omega)
  have off : ∀ y, (∃ c, h4 y = some c) ∨ True → True := fun _ _ => trivial
  have hO4 : SO A' ((qo q, qth q, qhe q, a, qli q), va_up (qtr q) (gT σ) b, qla q, qrr q) := by
    refine ⟨?_, ?_⟩
    · show qth q ≠ A' 1
      rw [i1 1 (by omega)]
      exact hO.1
    · show qhe q ≠ A' 3
      rw [i1 3 (by omega)]
      exact hO.2
  have hS4 : SM h4 ((qo q, qth q, qhe q, a, qli q), va_up (qtr q) (gT σ) b, qla q, qrr q) (sAdd σ (nI (1 + k2))) := by
    have hS9 := hS2
    have key := hS2.kpA hC2 hO (A' := A') i1 i2 hk4
    exact key
  refine V.run hF [(.iload_n 3, 1, .null)] (pc' := 80) (L' := [some (.ref (A 0)), some (.ref (qo q)), some (.int x), some (.int (nI (gT σ))), none, none, none, none, none, none, none, none, none, none, none, none, none, none, none]) (st' := [.int (nI (gT σ)), .int (nI (gT σ))]) (by decide +kernel) rfl ?_
  refine V.icmp_ne hF (off := 7) (tgt := 87) (by decide +kernel) (by decide) (fun c1 => ?_) (fun c1 => ?_)
  · exact absurd rfl c1
  · skip
    refine V.run hF [(.iconst 1, 1, .int 1), (.goto 4, 3, .null)] (pc' := 88) (L' := [some (.ref (A 0)), some (.ref (qo q)), some (.int x), some (.int (nI (gT σ))), none, none, none, none, none, none, none, none, none, none, none, none, none, none, none]) (st' := [.int 1]) (by decide +kernel) rfl ?_
    exact V.retz hF (by decide +kernel) rfl ⟨rfl, A', ((qo q, qth q, qhe q, a, qli q), va_up (qtr q) (gT σ) b, qla q, qrr q), _, _, _, A0, rfl, hC4, hS4, hO4, hR.add, (hA.add h0).up (by omega), Nat.le_trans hgy (Nat.le_add_right _ _)⟩
end Ad
