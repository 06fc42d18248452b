/-! ===== the law: its loop, its start ===== -/
theorem c_999 (i : Nat) : ((83000 + 999 * i : Nat) : Int) + 999 ≤ ((83000 + 999 * (i + 1) : Nat) : Int) := by omega
section Lo
variable {G : Gt} {F : Ft} {Q : State → Prop} {sb n a o : Nat} {xs : Nat → Int32}
set_option maxHeartbeats 16000000 in
theorem law_loop (hG : GOk G) (hF : Ok G F RL cL_law 23 (some .boolean)) (hRm : fR F = room_1) (hX : SX G sb n xs) (hn : n ≤ 260) (hend : ∀ kc ks L h, V G F Q kc ks 1006 L [.int 1] h) :
    ∀ i, i ≤ 30 → ∀ (hh : Hp) (L4 L5 L6 L7 L8 L9 L10 L11 L12 L13 L14 L15 L16 L17 L18 L19 L20 L21 L22 : Option Value), IV ((83000 + 999 * i : Nat) : Int) (3320 + 41 * i) a o hh → V G F Q (2100 + 3000 * (30 - i)) (10100 + 13000 * (30 - i)) 22 [some (.ref sb), some (.ref a), some (.ref o), some (.int (nI i)), L4, L5, L6, L7, L8, L9, L10, L11, L12, L13, L14, L15, L16, L17, L18, L19, L20, L21, L22] [] hh := by
  refine lp_up 30 fun i hi ih hh L4 L5 L6 L7 L8 L9 L10 L11 L12 L13 L14 L15 L16 L17 L18 L19 L20 L21 L22 hI => ?_
  refine V.loc (L' := [some (.ref sb), some (.ref a), some (.ref o), some (.int (nI i)), none, none, none, none, none, none, none, none, none, none, none, none, none, none, none, none, none, none, none]) (fun j v hv => by
    match j, hv with
    | 0, hv => exact hv
    | 1, hv => exact hv
    | 2, hv => exact hv
    | 3, hv => exact hv
    | 4, hv => cases hv
    | 5, hv => cases hv
    | 6, hv => cases hv
    | 7, hv => cases hv
    | 8, hv => cases hv
    | 9, hv => cases hv
    | 10, hv => cases hv
    | 11, hv => cases hv
    | 12, hv => cases hv
    | 13, hv => cases hv
    | 14, hv => cases hv
    | 15, hv => cases hv
    | 16, hv => cases hv
    | 17, hv => cases hv
    | 18, hv => cases hv
    | 19, hv => cases hv
    | 20, hv => cases hv
    | 21, hv => cases hv
    | 22, hv => cases hv
    | zz + 23, hv => cases hv) ?_
  refine V.run hF [(.iload_n 3, 1, .null), (.bipush 30, 2, .int (nI 30))] (pc' := 25) (L' := [some (.ref sb), some (.ref a), some (.ref o), some (.int (nI i)), none, none, none, none, none, none, none, none, none, none, none, none, none, none, none, none, none, none, none]) (st' := [.int (nI 30), .int (nI i)]) (by decide +kernel) rfl ?_
  refine V.icmpN_ge (i := i) (j := 30) hF (off := 976) (tgt := 1001) (by decide +kernel) (by decide) (by omega) (by omega) (fun z1 => ?_) (fun z1 => ?_)
  · obtain ⟨A, q, σ, P, r, rfl, rfl, hC, hS, hO, hR, hA, hgy⟩ := hI
    obtain ⟨t1, -⟩ := id hS
    refine V.run hF [(.aload_n 2, 1, .null), (.aload_n 1, 1, .null)] (pc' := 1003) (L' := [some (.ref sb), some (.ref (A 0)), some (.ref (qo q)), some (.int (nI i)), none, none, none, none, none, none, none, none, none, none, none, none, none, none, none, none, none, none, none]) (st' := [.ref (A 0), .ref (qo q)]) (by decide +kernel) rfl ?_
    refine V.less (kc' := 100 + 2000) (ks' := 100 + 10000) (by omega) (by omega) ?_
    refine V.callV (As := [.ref (A 0)]) (st := []) hG hF k_RL_175 (by decide +kernel) (c_X4_isSame hG hC hS hR hA) t1 rfl rfl ⟨by rw [hRm]; decide, by rw [hRm]; decide⟩ (Nat.le_of_ble_eq_true rfl) rfl (fun v h2 hp2 => ?_) (fun E h9 hx => hx.elim)
    have hp2 : v = some (.int 1) := hp2
    rw [hp2]
    show V G F _ _ _ 1006 [some (.ref sb), some (.ref (A 0)), some (.ref (qo q)), some (.int (nI i)), none, none, none, none, none, none, none, none, none, none, none, none, none, none, none, none, none, none, none] [.int 1] h2
    exact hend _ _ _ _
  · skip
    refine V.run hF [(.aload_n 0, 1, .null), (.iload_n 3, 1, .null), (.bipush 16, 2, .int (nI 16))] (pc' := 32) (L' := [some (.ref sb), some (.ref a), some (.ref o), some (.int (nI i)), none, none, none, none, none, none, none, none, none, none, none, none, none, none, none, none, none, none, none]) (st' := [.int (nI 16), .int (nI i), .ref sb]) (by decide +kernel) rfl ?_
    refine V.iremN (a := i) (b := 16) hF (by decide +kernel) (by omega) (by omega) (by omega) ?_
    obtain ⟨KB, eK⟩ : ∃ z, z = 2100 + 3000 * (30 - (i + 1)) := ⟨_, rfl⟩
    obtain ⟨SB, eS⟩ : ∃ z, z = 10100 + 13000 * (30 - (i + 1)) := ⟨_, rfl⟩
    refine V.less (kc' := (KB + 2290) + 400) (ks' := (SB + 11820) + 400) (by omega) (by omega) ?_
    refine V.less (kc' := ((KB + 2290) + 400) + 0) (ks' := ((SB + 11820) + 400) + 0) (Nat.le_refl _) (Nat.le_refl _) ?_
    refine V.callS (As := [.ref sb, .int (nI (i % 16))]) (st := []) hG hF k_RL_88 (by decide +kernel) (c_L_cell hG hX hn (by omega)) rfl ⟨by rw [hRm]; decide, by rw [hRm]; decide⟩ (Nat.le_of_ble_eq_true rfl) rfl (fun v h3 hp3 => ?_) (fun E h9 hx => hx.elim)
    obtain ⟨zc, hv3, he3⟩ := hp3
    rw [hv3, he3]
    show V G F _ _ _ 36 [some (.ref sb), some (.ref a), some (.ref o), some (.int (nI i)), none, none, none, none, none, none, none, none, none, none, none, none, none, none, none, none, none, none, none] [.int zc] hh
    refine V.run hF [(.iload_n 3, 1, .null), (.bipush 16, 2, .int (nI 16))] (pc' := 39) (L' := [some (.ref sb), some (.ref a), some (.ref o), some (.int (nI i)), none, none, none, none, none, none, none, none, none, none, none, none, none, none, none, none, none, none, none]) (st' := [.int (nI 16), .int (nI i), .int zc]) (by decide +kernel) rfl ?_
    refine V.idivN (a := i) (b := 16) hF (by decide +kernel) (by omega) (by omega) (by omega) ?_
    refine V.run hF [(.iconst 3, 1, .int 3), (.imul, 1, .null), (.ishr, 1, .null), (.sipush 769, 3, .int (nI 769)), (.iload_n 3, 1, .null), (.imul, 1, .null), (.iadd, 1, .null)] (pc' := 49) (L' := [some (.ref sb), some (.ref a), some (.ref o), some (.int (nI i)), none, none, none, none, none, none, none, none, none, none, none, none, none, none, none, none, none, none, none]) (st' := [.int ((zc >>> ((nI (i / 16) * 3) &&& 31)) + (nI 769 * nI i))]) (by decide +kernel) rfl ?_
    obtain ⟨x4, hx4⟩ : ∃ y : Int32, y = (zc >>> ((nI (i / 16) * 3) &&& 31)) + (nI 769 * nI i) := ⟨_, rfl⟩
    rw [← hx4]
    refine V.run hF [(.istore 4, 2, .null), (.aload_n 1, 1, .null), (.aload_n 2, 1, .null), (.iload 4, 2, .null)] (pc' := 55) (L' := [some (.ref sb), some (.ref a), some (.ref o), some (.int (nI i)), some (.int x4), none, none, none, none, none, none, none, none, none, none, none, none, none, none, none, none, none, none]) (st' := [.int x4, .ref o, .ref a]) (by decide +kernel) rfl ?_
    refine V.callS (As := [.ref a, .ref o, .int x4]) (st := []) hG hF k_RL_92 (by decide +kernel) (c_L_act hG hI (by omega) (by omega) (by omega) x4) rfl ⟨by rw [hRm]; decide, by rw [hRm]; decide⟩ (Nat.le_of_ble_eq_true rfl) rfl (fun v h4 hp4 => ?_) (fun E h9 hx => hx.elim)
    obtain ⟨hv4, hI4⟩ := hp4
    rw [hv4]
    show V G F _ _ _ 58 [some (.ref sb), some (.ref a), some (.ref o), some (.int (nI i)), some (.int x4), none, none, none, none, none, none, none, none, none, none, none, none, none, none, none, none, none, none] [.int 1] h4
    refine V.if_ne hF (off := 5) (tgt := 63) (by decide +kernel) (by decide) (fun c2 => ?_) (fun c2 => ?_)
    · obtain ⟨A, q, σ, P, r, rfl, rfl, hC, hS, hO, hR, hA, hgy⟩ := hI4
      have gA := hC.2.2.1
      have h8 := hC.2.1
      have hW4 : WD A q σ h4 := ⟨P, r, hC, hS⟩
      refine V.run hF [(.aload_n 1, 1, .null)] (pc' := 64) (L' := [some (.ref sb), some (.ref (A 0)), some (.ref (qo q)), some (.int (nI i)), some (.int x4), none, none, none, none, none, none, none, none, none, none, none, none, none, none, none, none, none, none]) (st' := [.ref (A 0)]) (by decide +kernel) rfl ?_
      refine V.less (kc' := (KB + 2290) + 0) (ks' := (SB + 11820) + 0) (by omega) (by omega) ?_
      refine V.callV (As := []) (st := []) hG hF k_RL_101 (by decide +kernel) (c_X3_tablets hG hC) gA rfl rfl ⟨by rw [hRm]; decide, by rw [hRm]; decide⟩ (Nat.le_of_ble_eq_true rfl) rfl (fun v h_4 gp4 => ?_) (fun E h9 hx => hx.elim)
      obtain ⟨rfl, he_gp4⟩ := gp4
      rw [he_gp4]
      show V G F _ _ _ 67 [some (.ref sb), some (.ref (A 0)), some (.ref (qo q)), some (.int (nI i)), some (.int x4), none, none, none, none, none, none, none, none, none, none, none, none, none, none, none, none, none, none] [.int (nI (gT σ))] h4
      refine V.run hF [(.istore 5, 2, .null), (.iconst 0, 1, .int 0), (.istore 6, 2, .null), (.iconst 0, 1, .int 0), (.istore 7, 2, .null), (.iconst 0, 1, .int 0), (.istore 8, 2, .null), (.bipush 8, 2, .int (nI 8)), (.bipush 8, 2, .int (nI 8))] (pc' := 82) (L' := [some (.ref sb), some (.ref (A 0)), some (.ref (qo q)), some (.int (nI i)), some (.int x4), some (.int (nI (gT σ))), some (.int 0), some (.int 0), some (.int 0), none, none, none, none, none, none, none, none, none, none, none, none, none, none]) (st' := [.int (nI 8), .int (nI 8)]) (by decide +kernel) rfl ?_
      refine V.less (kc' := (KB + 2281) + (1 + 8)) (ks' := (SB + 11748) + (8 + 8 * 8)) (by omega) (by omega) ?_
      refine V.grid (t := 2) (t' := 0) (n := 8) (k := 8) (a0 := (8, .inl (fun _ => 0))) hG hF (by decide) tw_585.1 (by decide +kernel) (by decide) (by decide) (fun _ => rfl) (fun og h5 gqA gqB gqC gqD gqE => ?_)
      have hW5 : WD A q σ h5 := hW4.ex gqE
      have o5 : OG h5 og (fun _ _ => 0) := ⟨⟨_, gqC, fun d hd => if_pos hd⟩, fun d hd => ⟨_, gqD d hd, fun c hc => rfl⟩⟩
      refine V.run hF [(.astore 9, 2, .null), (.iload 5, 2, .null)] (pc' := 90) (L' := [some (.ref sb), some (.ref (A 0)), some (.ref (qo q)), some (.int (nI i)), some (.int x4), some (.int (nI (gT σ))), some (.int 0), some (.int 0), some (.int 0), some (.ref og), none, none, none, none, none, none, none, none, none, none, none, none, none]) (st' := [.int (nI (gT σ))]) (by decide +kernel) rfl ?_
      refine V.less (kc' := (KB + 2280) + 1) (ks' := (SB + 11740) + gT σ) (by omega) (by omega) ?_
      refine V.newa (aty := .int) (t := 0) (N := gT σ) (a0 := (gT σ, .inl (fun _ => 0))) hG hF (by decide) rfl tw_arr_0.1 (by decide +kernel) (nI_pos (by omega)) (nI_clamp (by omega)) (Nat.le_trans (Nat.mul_le_mul_right _ (show gT σ ≤ 8 by omega)) (by decide)) (fun _ => rfl) (fun mny hq_mny => ?_)
      obtain ⟨h_5, gh5⟩ : ∃ z : Hp, z = hset h5 mny (.inl (0, gT σ, .inl (fun _ => 0))) := ⟨_, rfl⟩
      refine V.hp gh5 ?_
      have gk5 : ∀ zq : Nat, zq ≠ mny → h_5 zq = h5 zq := fun zq hq => by rw [gh5]; exact hset_ne hq
      have gs5 : h_5 mny = some (.inl (0, gT σ, .inl (fun _ => 0))) := by rw [gh5]; exact hset_eq
      have hLP : LPl A q σ og mny := ⟨hW4.lo gqA, fun d hd => hW4.lo (gqB d hd), hW5.lo hq_mny, Ne.symm (ne_new gqC hq_mny), fun d hd => Ne.symm (ne_new (gqD d hd) hq_mny)⟩
      have x6 : Ex h5 h_5 := Ex.new hq_mny (fun x hx => gk5 x hx)
      have hL6 : LW A q σ og mny h_5 (fun _ _ => 0) (fun _ => 0) := ⟨hW5.ex x6, o5.ex x6, gs5⟩
      refine V.run hF [(.astore 10, 2, .null), (.iconst 0, 1, .int 0), (.istore 11, 2, .null), (.iconst 0, 1, .int (nI 0)), (.istore 12, 2, .null)] (pc' := 100) (L' := [some (.ref sb), some (.ref (A 0)), some (.ref (qo q)), some (.int (nI i)), some (.int x4), some (.int (nI (gT σ))), some (.int 0), some (.int 0), some (.int 0), some (.ref og), some (.ref mny), some (.int 0), some (.int (nI 0)), none, none, none, none, none, none, none, none, none, none]) (st' := []) (by decide +kernel) rfl ?_
      have h0 : (0 : Int) ≤ ((83000 + 999 * i : Nat) : Int) + 999 := by omega
      have hS6 : ((83000 + 999 * i : Nat) : Int) + 999 ≤ 1000000 := by omega
      have hy : gy σ ≤ 100000 := by omega
      have kt := law_tabs hG hF hRm hO hR hA hS6 h0 hy h8 hLP (Q := Q) (sb := sb) (i := i) (x4 := x4) (K1 := KB + 680) (K2 := SB + 2140) (fun h7 fm L12 L13 L14 L15 L16 L17 L18 L19 L20 L21 L22 hL7 hfm => ?_) 0 (Nat.zero_le _) h_5 (fun _ => 0)
      · refine V.less (kc' := (KB + 680) + 200 * (8 - 0)) (ks' := (SB + 2140) + 1200 * (8 - 0)) (by omega) (by omega) ?_
        exact kt _ _ _ _ _ _ _ _ _ _ (hL6.cg fun a b _ _ => rfl) (fun x hx => absurd hx (Nat.not_lt_zero x))
      · skip
        refine V.loc (L' := [some (.ref sb), some (.ref (A 0)), some (.ref (qo q)), some (.int (nI i)), some (.int x4), some (.int (nI (gT σ))), some (.int (gLn σ (gT σ))), some (.int (gTo σ (gT σ))), some (.int (unT σ (gT σ))), some (.ref og), some (.ref mny), some (.int (anyT σ (gT σ))), none, none, none, none, none, none, none, none, none, none, none]) (fun j v hv => by
          match j, hv with
          | 0, hv => exact hv
          | 1, hv => exact hv
          | 2, hv => exact hv
          | 3, hv => exact hv
          | 4, hv => exact hv
          | 5, hv => exact hv
          | 6, hv => exact hv
          | 7, hv => exact hv
          | 8, hv => exact hv
          | 9, hv => exact hv
          | 10, hv => exact hv
          | 11, hv => exact hv
          | 12, hv => cases hv
          | 13, hv => cases hv
          | 14, hv => cases hv
          | 15, hv => cases hv
          | 16, hv => cases hv
          | 17, hv => cases hv
          | 18, hv => cases hv
          | 19, hv => cases hv
          | 20, hv => cases hv
          | 21, hv => cases hv
          | 22, hv => cases hv
          | zz + 23, hv => cases hv) ?_
        refine V.run hF [(.iconst 0, 1, .int 0), (.istore 12, 2, .null), (.iconst 0, 1, .int 0), (.istore 13, 2, .null), (.iconst 0, 1, .int 0), (.istore 14, 2, .null), (.iconst 0, 1, .int (nI 0)), (.istore 15, 2, .null)] (pc' := 438) (L' := [some (.ref sb), some (.ref (A 0)), some (.ref (qo q)), some (.int (nI i)), some (.int x4), some (.int (nI (gT σ))), some (.int (gLn σ (gT σ))), some (.int (gTo σ (gT σ))), some (.int (unT σ (gT σ))), some (.ref og), some (.ref mny), some (.int (anyT σ (gT σ))), some (.int 0), some (.int 0), some (.int 0), some (.int (nI 0)), none, none, none, none, none, none, none]) (st' := []) (by decide +kernel) rfl ?_
        have kp := law_persons hG hF hRm hO hR hA hS6 h0 hy h8 hLP (Q := Q) (sb := sb) (i := i) (x4 := x4) (K1 := KB + 360) (K2 := SB + 220) (fm := fm) (fun h8' L15 L16 L17 L18 L19 L20 L21 L22 hL8 => ?_) 0 (Nat.zero_le _) h7
        · refine V.less (kc' := (KB + 360) + 40 * (8 - 0)) (ks' := (SB + 220) + 240 * (8 - 0)) (by omega) (by omega) ?_
          exact kp _ _ _ _ _ _ _ hL7
        · refine law_year hG hF hRm hO hR hA hS6 h0 hy h8 hLP (Q := Q) (sb := sb) (i := i) (x4 := x4) (K1 := KB) (K2 := SB) hfm (fun h9 ml L6 L7 L8 L9 L10 L11 L12 L13 L14 L15 L16 L17 L18 L19 L20 L21 L22 hI9 => ?_) hL8
          refine V.loc (L' := [some (.ref sb), some (.ref (A 0)), some (.ref (qo q)), some (.int (nI i)), some (.int x4), some (.int (nI (gT σ))), none, none, none, none, none, none, none, none, none, none, none, none, none, none, none, none, none]) (fun j v hv => by
            match j, hv with
            | 0, hv => exact hv
            | 1, hv => exact hv
            | 2, hv => exact hv
            | 3, hv => exact hv
            | 4, hv => exact hv
            | 5, hv => exact hv
            | 6, hv => cases hv
            | 7, hv => cases hv
            | 8, hv => cases hv
            | 9, hv => cases hv
            | 10, hv => cases hv
            | 11, hv => cases hv
            | 12, hv => cases hv
            | 13, hv => cases hv
            | 14, hv => cases hv
            | 15, hv => cases hv
            | 16, hv => cases hv
            | 17, hv => cases hv
            | 18, hv => cases hv
            | 19, hv => cases hv
            | 20, hv => cases hv
            | 21, hv => cases hv
            | 22, hv => cases hv
            | zz + 23, hv => cases hv) ?_
          refine V.run hF [(.iinc 3 1, 3, .int 1), (.goto (-976), 3, .null)] (pc' := 22) (L' := [some (.ref sb), some (.ref (A 0)), some (.ref (qo q)), some (.int ((nI i) + 1)), some (.int x4), some (.int (nI (gT σ))), none, none, none, none, none, none, none, none, none, none, none, none, none, none, none, none, none]) (st' := []) (by decide +kernel) rfl ?_
          rw [nI_1 i]
          have hI10 : IV ((83000 + 999 * (i + 1) : Nat) : Int) (3320 + 41 * (i + 1)) (A 0) (qo q) h9 := by
            refine IV.cast hI9 ?_ ?_
            · exact c_999 i
            · omega
          have k := ih z1 h9 (some (.int x4)) (some (.int (nI (gT σ)))) none none none none none none none none none none none none none none none none none hI10
          rw [← eK, ← eS] at k
          exact k
    · skip
      exact absurd c2 (by decide +kernel)
set_option maxHeartbeats 8000000 in
theorem law_start (hG : GOk G) (hF : Ok G F RL cL_law 23 (some .boolean)) (hRm : fR F = room_1) (hX : SX G sb n xs) (hn : n ≤ 260) (hend : ∀ kc ks L h, V G F Q kc ks 1006 L [.int 1] h) :
    V G F Q 647703 7158589 0 (entL 23 [.ref sb]) [] (fun _ => none) := by
  refine V.less (kc' := (92100 + 33300 + 11) + 1) (ks' := (400100 + 33300 + 97) + 9) (by omega) (by omega) ?_
  obtain ⟨h, hh⟩ : ∃ h : Hp, h = fun _ => none := ⟨_, rfl⟩
  rw [← hh]
  refine V.new hG hF k_RL_26 (by decide +kernel) (fun q1 hq_q1 => ?_)
  obtain ⟨h_1, gh1⟩ : ∃ z : Hp, z = hset h q1 (.inr (3, [.null, .null, .null, .null, .null, .int 0, .int 0, .int 0, .int 0])) := ⟨_, rfl⟩
  refine V.hp gh1 ?_
  have gk1 : ∀ zq : Nat, zq ≠ q1 → h_1 zq = h zq := fun zq hq => by rw [gh1]; exact hset_ne hq
  have gs1 : h_1 q1 = some (.inr (3, [.null, .null, .null, .null, .null, .int 0, .int 0, .int 0, .int 0])) := by rw [gh1]; exact hset_eq
  refine V.run hF [(.dup, 1, .null)] (pc' := 4) (L' := [some (.ref sb), none, none, none, none, none, none, none, none, none, none, none, none, none, none, none, none, none, none, none, none, none, none]) (st' := [.ref q1, .ref q1]) (by decide +kernel) rfl ?_
  refine V.less (kc' := (92100 + 33300) + 11) (ks' := (400100 + 33300) + 97) (by decide) (by decide) ?_
  refine V.callI (As := []) (st := [.ref q1]) hG hF k_RL_96 (by decide +kernel) (c_X3_init hG gs1) rfl ⟨by rw [hRm]; decide, by rw [hRm]; decide⟩ (Nat.le_of_ble_eq_true rfl) rfl (fun v1 h2 hp => ?_)
  obtain ⟨rfl, A, rfl, hC, fA, kA⟩ := hp
  show V G F _ _ _ 7 [some (.ref sb), none, none, none, none, none, none, none, none, none, none, none, none, none, none, none, none, none, none, none, none, none, none] [.ref (A 0)] h2
  refine V.run hF [(.astore_n 1, 1, .null), (.aload_n 1, 1, .null), (.aload_n 0, 1, .null)] (pc' := 10) (L' := [some (.ref sb), some (.ref (A 0)), none, none, none, none, none, none, none, none, none, none, none, none, none, none, none, none, none, none, none, none, none]) (st' := [.ref sb, .ref (A 0)]) (by decide +kernel) rfl ?_
  refine V.less (kc' := 92100 + 33300) (ks' := 400100 + 33300) (by decide) (by decide) ?_
  refine V.callS (As := [.ref (A 0), .ref sb]) (st := []) hG hF k_RL_97 (by decide +kernel) (c_L_build hG hX hn hC) rfl ⟨by rw [hRm]; decide, by rw [hRm]; decide⟩ (Nat.le_of_ble_eq_true rfl) rfl (fun v h3 hp3 => ?_) (fun E h9 hx => hx.elim)
  obtain ⟨o, hv3, hI3⟩ := hp3
  rw [hv3]
  show V G F _ _ _ 13 [some (.ref sb), some (.ref (A 0)), none, none, none, none, none, none, none, none, none, none, none, none, none, none, none, none, none, none, none, none, none] [.ref o] h3
  refine V.run hF [(.astore_n 2, 1, .null), (.aload_n 2, 1, .null)] (pc' := 15) (L' := [some (.ref sb), some (.ref (A 0)), some (.ref o), none, none, none, none, none, none, none, none, none, none, none, none, none, none, none, none, none, none, none, none]) (st' := [.ref o]) (by decide +kernel) rfl ?_
  refine V.ifnonnull1 hF (off := 5) (tgt := 20) (by decide +kernel) (by decide) ?_
  refine V.run hF [(.iconst 0, 1, .int (nI 0)), (.istore_n 3, 1, .null)] (pc' := 22) (L' := [some (.ref sb), some (.ref (A 0)), some (.ref o), some (.int (nI 0)), none, none, none, none, none, none, none, none, none, none, none, none, none, none, none, none, none, none, none]) (st' := []) (by decide +kernel) rfl ?_
  refine V.less (kc' := 2100 + 3000 * (30 - 0)) (ks' := 10100 + 13000 * (30 - 0)) (by decide) (by decide) ?_
  exact law_loop hG hF hRm hX hn hend 0 (Nat.zero_le _) h3 _ _ _ _ _ _ _ _ _ _ _ _ _ _ _ _ _ _ _ (hI3.cast (by decide) (by decide))
end Lo
