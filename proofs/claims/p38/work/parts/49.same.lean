/-! ===== TallyWaxLaw$Sim.isSame: all as by hand ===== -/
/-- what each has -/
abbrev hb (σ : Sg) : Nat → Int32 := fun p => balT σ (nI p) (gT σ)
abbrev sameP : Option Value → Hp → Prop := fun v _ => v = some (.int 1)
theorem pmx_s {b : Nat → Int32} {p : Nat} : pmax b ((p + 1) - 1) = if b (pmax b (p - 1)) < b p then p else pmax b (p - 1) := by
  cases p with
  | zero =>
    show (0 : Nat) = _
    split <;> rfl
  | succ p => rfl
section Sa
variable {G : Gt} {h : Hp} {A : Nat → Nat} {q : QA} {σ : Sg} {P : PS} {r : Nat → Int32} {S : Int}
set_option maxHeartbeats 16000000 in
theorem c_X4_isSame (hG : GOk G) (hC : CS h A σ P r) (hS : SM h q σ) (hR : RI σ) (hA : Am σ S) : Ct G yX4_isSame (.code yX4_isSame cX4_isSame 10 (some .boolean)) 9 150 2000 10000 [.ref (qo q), .ref (A 0)] h sameP pxN := by
  refine Ct.of (by decide +kernel) (Nat.le_of_ble_eq_true rfl) fun F hF hT hN hRm => ?_
  have hT8 := hC.2.1
  obtain ⟨s1, s2, s3, ⟨g1, s4, s5⟩, ⟨g2, s6, s7⟩, s8, s9⟩ := id hS
  have gA := hC.2.2.1
  refine V.run hF [(.aload_n 0, 1, .null)] (pc' := 1) (L' := [some (.ref (qo q)), some (.ref (A 0)), none, none, none, none, none, none, none, none]) (st' := [.ref (qo q)]) (by decide +kernel) rfl ?_
  refine V.getf hG hF k_RX4_18 (by decide +kernel) s1 rfl ?_
  refine V.alen hG hF (by decide +kernel) (by decide) s4 ?_
  show V G F _ _ _ 5 [some (.ref (qo q)), some (.ref (A 0)), none, none, none, none, none, none, none, none] [.int (nI (gT σ))] h
  refine V.run hF [(.istore_n 2, 1, .null), (.iconst 0, 1, .int 0), (.istore_n 3, 1, .null), (.bipush 8, 2, .int (nI 8))] (pc' := 10) (L' := [some (.ref (qo q)), some (.ref (A 0)), some (.int (nI (gT σ))), some (.int 0), none, none, none, none, none, none]) (st' := [.int (nI 8)]) (by decide +kernel) rfl ?_
  refine V.less (kc' := 1999 + 1) (ks' := 9992 + 8) (by decide) (by decide) ?_
  refine V.newa (aty := .int) (t := 0) (N := 8) (a0 := (8, .inl (fun _ => 0))) hG hF (by decide) rfl tw_arr_0.1 (by decide +kernel) (by decide) (by decide) (by decide) (fun _ => rfl) (fun ha hq_ha => ?_)
  have ne_qoq_ha : (qo q) ≠ ha := ne_new s1 hq_ha
  have ne_qtaq_ha : (qta q) ≠ ha := ne_new s4 hq_ha
  obtain ⟨h_1, gh1⟩ : ∃ z : Hp, z = hset h ha (.inl (0, 8, .inl (fun _ => 0))) := ⟨_, rfl⟩
  refine V.hp gh1 ?_
  have gk1 : ∀ zq : Nat, zq ≠ ha → h_1 zq = h zq := fun zq hq => by rw [gh1]; exact hset_ne hq
  have gs1 : h_1 ha = some (.inl (0, 8, .inl (fun _ => 0))) := by rw [gh1]; exact hset_eq
  have x1 : Ex h h_1 := Ex.new hq_ha (fun x hx => gk1 x hx)
  have ch := gs1
  refine V.run hF [(.astore 4, 2, .null), (.bipush 8, 2, .int (nI 8)), (.bipush 8, 2, .int (nI 8))] (pc' := 18) (L' := [some (.ref (qo q)), some (.ref (A 0)), some (.int (nI (gT σ))), some (.int 0), some (.ref ha), none, none, none, none, none]) (st' := [.int (nI 8), .int (nI 8)]) (by decide +kernel) rfl ?_
  refine V.less (kc' := 1990 + (1 + 8)) (ks' := 9920 + (8 + 8 * 8)) (by decide) (by decide) ?_
  refine V.grid (t := 2) (t' := 0) (n := 8) (k := 8) (a0 := (8, .inl (fun _ => 0))) hG hF (by decide) tw_411.1 (by decide +kernel) (by decide) (by decide) (fun _ => rfl) (fun og h2 gqA gqB gqC gqD gqE => ?_)
  have x2 : Ex h h2 := x1.tr gqE
  have ch2 := gqE _ _ ch
  have nha : ∀ d, d < 8 → ha ≠ og + 1 + d := fun d hd => ne_new ch (gqB d hd)
  have o2 : OG h2 og (fun _ _ => 0) := ⟨⟨_, gqC, fun d hd => if_pos hd⟩, fun d hd => ⟨_, gqD d hd, fun c hc => rfl⟩⟩
  -- the last part
  have final : ∀ (hh : Hp) (rich : Nat) (L7 L8 L9 : Option Value), Ex h hh → rich = pmax (hb σ) 7 → V G F (fin G F sameP pxN) 100 100 380 [some (.ref (qo q)), some (.ref (A 0)), some (.int (nI (gT σ))), some (.int (gLn σ (gT σ))), some (.ref ha), some (.ref og), some (.int (nI rich)), L7, L8, L9] [] hh := by
    intro hh rich L7 L8 L9 xh er
    have hC2 := hC.ex xh
    have hS2 := hS.ex xh
    refine V.loc (L' := [some (.ref (qo q)), some (.ref (A 0)), some (.int (nI (gT σ))), some (.int (gLn σ (gT σ))), some (.ref ha), some (.ref og), some (.int (nI rich)), none, none, none]) (fun j v hv => by
      match j, hv with
      | 0, hv => exact hv
      | 1, hv => exact hv
      | 2, hv => exact hv
      | 3, hv => exact hv
      | 4, hv => exact hv
      | 5, hv => exact hv
      | 6, hv => exact hv
      | 7, hv => cases hv
      | 8, hv => cases hv
      | 9, hv => cases hv
      | zz + 10, hv => cases hv) ?_
    refine V.run hF [(.aload_n 1, 1, .null)] (pc' := 381) (L' := [some (.ref (qo q)), some (.ref (A 0)), some (.int (nI (gT σ))), some (.int (gLn σ (gT σ))), some (.ref ha), some (.ref og), some (.int (nI rich)), none, none, none]) (st' := [.ref (A 0)]) (by decide +kernel) rfl ?_
    refine V.callV (As := []) (st := []) hG hF k_RX4_81 (by decide +kernel) (c_X3_year hG hC2) (xh _ _ gA) rfl rfl ⟨by rw [hRm]; decide, by rw [hRm]; decide⟩ (Nat.le_of_ble_eq_true rfl) rfl (fun v h_2 gp2 => ?_) (fun E h9 hx => hx.elim)
    obtain ⟨rfl, he_gp2⟩ := gp2
    rw [he_gp2]
    show V G F _ _ _ 384 [some (.ref (qo q)), some (.ref (A 0)), some (.int (nI (gT σ))), some (.int (gLn σ (gT σ))), some (.ref ha), some (.ref og), some (.int (nI rich)), none, none, none] [.int (nI (gy σ))] hh
    refine V.run hF [(.aload_n 0, 1, .null)] (pc' := 385) (L' := [some (.ref (qo q)), some (.ref (A 0)), some (.int (nI (gT σ))), some (.int (gLn σ (gT σ))), some (.ref ha), some (.ref og), some (.int (nI rich)), none, none, none]) (st' := [.ref (qo q), .int (nI (gy σ))]) (by decide +kernel) rfl ?_
    refine V.getf hG hF k_RX4_39 (by decide +kernel) (xh _ _ s1) rfl ?_
    refine V.icmp_ne hF (off := 89) (tgt := 477) (by decide +kernel) (by decide) (fun c1 => ?_) (fun c1 => ?_)
    · exact absurd rfl c1
    · skip
      refine V.run hF [(.aload_n 1, 1, .null)] (pc' := 392) (L' := [some (.ref (qo q)), some (.ref (A 0)), some (.int (nI (gT σ))), some (.int (gLn σ (gT σ))), some (.ref ha), some (.ref og), some (.int (nI rich)), none, none, none]) (st' := [.ref (A 0)]) (by decide +kernel) rfl ?_
      refine V.callV (As := []) (st := []) hG hF k_RX4_84 (by decide +kernel) (c_X3_tablets hG hC2) (xh _ _ gA) rfl rfl ⟨by rw [hRm]; decide, by rw [hRm]; decide⟩ (Nat.le_of_ble_eq_true rfl) rfl (fun v h_3 gp3 => ?_) (fun E h9 hx => hx.elim)
      obtain ⟨rfl, he_gp3⟩ := gp3
      rw [he_gp3]
      show V G F _ _ _ 395 [some (.ref (qo q)), some (.ref (A 0)), some (.int (nI (gT σ))), some (.int (gLn σ (gT σ))), some (.ref ha), some (.ref og), some (.int (nI rich)), none, none, none] [.int (nI (gT σ))] hh
      refine V.run hF [(.iload_n 2, 1, .null)] (pc' := 396) (L' := [some (.ref (qo q)), some (.ref (A 0)), some (.int (nI (gT σ))), some (.int (gLn σ (gT σ))), some (.ref ha), some (.ref og), some (.int (nI rich)), none, none, none]) (st' := [.int (nI (gT σ)), .int (nI (gT σ))]) (by decide +kernel) rfl ?_
      refine V.icmp_ne hF (off := 81) (tgt := 477) (by decide +kernel) (by decide) (fun c1 => ?_) (fun c1 => ?_)
      · exact absurd rfl c1
      · skip
        refine V.run hF [(.aload_n 1, 1, .null)] (pc' := 400) (L' := [some (.ref (qo q)), some (.ref (A 0)), some (.int (nI (gT σ))), some (.int (gLn σ (gT σ))), some (.ref ha), some (.ref og), some (.int (nI rich)), none, none, none]) (st' := [.ref (A 0)]) (by decide +kernel) rfl ?_
        refine V.callV (As := []) (st := []) hG hF k_RX4_86 (by decide +kernel) (c_X3_lines hG hC2) (xh _ _ gA) rfl rfl ⟨by rw [hRm]; decide, by rw [hRm]; decide⟩ (Nat.le_of_ble_eq_true rfl) rfl (fun v h_4 gp4 => ?_) (fun E h9 hx => hx.elim)
        obtain ⟨rfl, he_gp4⟩ := gp4
        rw [he_gp4]
        show V G F _ _ _ 403 [some (.ref (qo q)), some (.ref (A 0)), some (.int (nI (gT σ))), some (.int (gLn σ (gT σ))), some (.ref ha), some (.ref og), some (.int (nI rich)), none, none, none] [.int (gLn σ (gT σ))] hh
        refine V.run hF [(.iload_n 3, 1, .null)] (pc' := 404) (L' := [some (.ref (qo q)), some (.ref (A 0)), some (.int (nI (gT σ))), some (.int (gLn σ (gT σ))), some (.ref ha), some (.ref og), some (.int (nI rich)), none, none, none]) (st' := [.int (gLn σ (gT σ)), .int (gLn σ (gT σ))]) (by decide +kernel) rfl ?_
        refine V.icmp_ne hF (off := 73) (tgt := 477) (by decide +kernel) (by decide) (fun c1 => ?_) (fun c1 => ?_)
        · exact absurd rfl c1
        · skip
          refine V.run hF [(.aload_n 1, 1, .null)] (pc' := 408) (L' := [some (.ref (qo q)), some (.ref (A 0)), some (.int (nI (gT σ))), some (.int (gLn σ (gT σ))), some (.ref ha), some (.ref og), some (.int (nI rich)), none, none, none]) (st' := [.ref (A 0)]) (by decide +kernel) rfl ?_
          refine V.callV (As := []) (st := []) hG hF k_RX4_88 (by decide +kernel) (c_X3_melted hG hC2) (xh _ _ gA) rfl rfl ⟨by rw [hRm]; decide, by rw [hRm]; decide⟩ (Nat.le_of_ble_eq_true rfl) rfl (fun v h_5 gp5 => ?_) (fun E h9 hx => hx.elim)
          obtain ⟨rfl, he_gp5⟩ := gp5
          rw [he_gp5]
          show V G F _ _ _ 411 [some (.ref (qo q)), some (.ref (A 0)), some (.int (nI (gT σ))), some (.int (gLn σ (gT σ))), some (.ref ha), some (.ref og), some (.int (nI rich)), none, none, none] [.int (gme σ)] hh
          refine V.run hF [(.aload_n 0, 1, .null)] (pc' := 412) (L' := [some (.ref (qo q)), some (.ref (A 0)), some (.int (nI (gT σ))), some (.int (gLn σ (gT σ))), some (.ref ha), some (.ref og), some (.int (nI rich)), none, none, none]) (st' := [.ref (qo q), .int (gme σ)]) (by decide +kernel) rfl ?_
          refine V.getf hG hF k_RX4_35 (by decide +kernel) (xh _ _ s1) rfl ?_
          refine V.icmp_ne hF (off := 62) (tgt := 477) (by decide +kernel) (by decide) (fun c1 => ?_) (fun c1 => ?_)
          · exact absurd rfl c1
          · skip
            refine V.run hF [(.aload_n 1, 1, .null)] (pc' := 419) (L' := [some (.ref (qo q)), some (.ref (A 0)), some (.int (nI (gT σ))), some (.int (gLn σ (gT σ))), some (.ref ha), some (.ref og), some (.int (nI rich)), none, none, none]) (st' := [.ref (A 0)]) (by decide +kernel) rfl ?_
            refine V.callV (As := []) (st := []) hG hF k_RX4_90 (by decide +kernel) (c_X3_denied hG hC2) (xh _ _ gA) rfl rfl ⟨by rw [hRm]; decide, by rw [hRm]; decide⟩ (Nat.le_of_ble_eq_true rfl) rfl (fun v h_6 gp6 => ?_) (fun E h9 hx => hx.elim)
            obtain ⟨rfl, he_gp6⟩ := gp6
            rw [he_gp6]
            show V G F _ _ _ 422 [some (.ref (qo q)), some (.ref (A 0)), some (.int (nI (gT σ))), some (.int (gLn σ (gT σ))), some (.ref ha), some (.ref og), some (.int (nI rich)), none, none, none] [.int (gde σ)] hh
            refine V.run hF [(.aload_n 0, 1, .null)] (pc' := 423) (L' := [some (.ref (qo q)), some (.ref (A 0)), some (.int (nI (gT σ))), some (.int (gLn σ (gT σ))), some (.ref ha), some (.ref og), some (.int (nI rich)), none, none, none]) (st' := [.ref (qo q), .int (gde σ)]) (by decide +kernel) rfl ?_
            refine V.getf hG hF k_RX4_93 (by decide +kernel) (xh _ _ s1) rfl ?_
            refine V.icmp_ne hF (off := 51) (tgt := 477) (by decide +kernel) (by decide) (fun c1 => ?_) (fun c1 => ?_)
            · exact absurd rfl c1
            · skip
              refine V.run hF [(.aload_n 1, 1, .null)] (pc' := 430) (L' := [some (.ref (qo q)), some (.ref (A 0)), some (.int (nI (gT σ))), some (.int (gLn σ (gT σ))), some (.ref ha), some (.ref og), some (.int (nI rich)), none, none, none]) (st' := [.ref (A 0)]) (by decide +kernel) rfl ?_
              refine V.callV (As := []) (st := []) hG hF k_RX4_95 (by decide +kernel) (c_X3_total hG hC2) (xh _ _ gA) rfl rfl ⟨by rw [hRm]; decide, by rw [hRm]; decide⟩ (Nat.le_of_ble_eq_true rfl) rfl (fun v h_7 gp7 => ?_) (fun E h9 hx => hx.elim)
              obtain ⟨rfl, he_gp7⟩ := gp7
              rw [he_gp7]
              show V G F _ _ _ 433 [some (.ref (qo q)), some (.ref (A 0)), some (.int (nI (gT σ))), some (.int (gLn σ (gT σ))), some (.ref ha), some (.ref og), some (.int (nI rich)), none, none, none] [.int (gTo σ (gT σ))] hh
              refine V.run hF [(.aload_n 0, 1, .null)] (pc' := 434) (L' := [some (.ref (qo q)), some (.ref (A 0)), some (.int (nI (gT σ))), some (.int (gLn σ (gT σ))), some (.ref ha), some (.ref og), some (.int (nI rich)), none, none, none]) (st' := [.ref (qo q), .int (gTo σ (gT σ))]) (by decide +kernel) rfl ?_
              refine V.callV (As := []) (st := [.int (gTo σ (gT σ))]) hG hF k_RX4_98 (by decide +kernel) (c_X4_total hG hS2 hT8 hR.2.2.2) (xh _ _ s1) rfl rfl ⟨by rw [hRm]; decide, by rw [hRm]; decide⟩ (Nat.le_of_ble_eq_true rfl) rfl (fun v h_8 gp8 => ?_) (fun E h9 hx => hx.elim)
              obtain ⟨rfl, he_gp8⟩ := gp8
              rw [he_gp8]
              show V G F _ _ _ 437 [some (.ref (qo q)), some (.ref (A 0)), some (.int (nI (gT σ))), some (.int (gLn σ (gT σ))), some (.ref ha), some (.ref og), some (.int (nI rich)), none, none, none] [.int (gTo σ (gT σ)), .int (gTo σ (gT σ))] hh
              refine V.icmp_ne hF (off := 40) (tgt := 477) (by decide +kernel) (by decide) (fun c1 => ?_) (fun c1 => ?_)
              · exact absurd rfl c1
              · skip
                refine V.run hF [(.aload_n 1, 1, .null)] (pc' := 441) (L' := [some (.ref (qo q)), some (.ref (A 0)), some (.int (nI (gT σ))), some (.int (gLn σ (gT σ))), some (.ref ha), some (.ref og), some (.int (nI rich)), none, none, none]) (st' := [.ref (A 0)]) (by decide +kernel) rfl ?_
                refine V.callV (As := []) (st := []) hG hF k_RX4_99 (by decide +kernel) (c_X3_richest hG hC2) (xh _ _ gA) rfl rfl ⟨by rw [hRm]; decide, by rw [hRm]; decide⟩ (Nat.le_of_ble_eq_true rfl) rfl (fun v h_9 gp9 => ?_) (fun E h9 hx => hx.elim)
                obtain ⟨rfl, he_gp9⟩ := gp9
                rw [he_gp9]
                show V G F _ _ _ 444 [some (.ref (qo q)), some (.ref (A 0)), some (.int (nI (gT σ))), some (.int (gLn σ (gT σ))), some (.ref ha), some (.ref og), some (.int (nI rich)), none, none, none] [.int (nI (pmax (hb σ) 7))] hh
                rw [← er]
                refine V.run hF [(.iload 6, 2, .null)] (pc' := 446) (L' := [some (.ref (qo q)), some (.ref (A 0)), some (.int (nI (gT σ))), some (.int (gLn σ (gT σ))), some (.ref ha), some (.ref og), some (.int (nI rich)), none, none, none]) (st' := [.int (nI rich), .int (nI rich)]) (by decide +kernel) rfl ?_
                refine V.icmp_ne hF (off := 31) (tgt := 477) (by decide +kernel) (by decide) (fun c1 => ?_) (fun c1 => ?_)
                · exact absurd rfl c1
                · skip
                  refine V.run hF [(.aload_n 1, 1, .null)] (pc' := 450) (L' := [some (.ref (qo q)), some (.ref (A 0)), some (.int (nI (gT σ))), some (.int (gLn σ (gT σ))), some (.ref ha), some (.ref og), some (.int (nI rich)), none, none, none]) (st' := [.ref (A 0)]) (by decide +kernel) rfl ?_
                  refine V.callV (As := []) (st := []) hG hF k_RX4_102 (by decide +kernel) (c_X3_meanAmount hG hC2) (xh _ _ gA) rfl rfl ⟨by rw [hRm]; decide, by rw [hRm]; decide⟩ (Nat.le_of_ble_eq_true rfl) rfl (fun v h_10 gp10 => ?_) (fun E h9 hx => hx.elim)
                  obtain ⟨rfl, he_gp10⟩ := gp10
                  rw [he_gp10]
                  show V G F _ _ _ 453 [some (.ref (qo q)), some (.ref (A 0)), some (.int (nI (gT σ))), some (.int (gLn σ (gT σ))), some (.ref ha), some (.ref og), some (.int (nI rich)), none, none, none] [.double (mn (gLn σ (gT σ)) (gTo σ (gT σ)))] hh
                  refine V.run hF [(.iload_n 3, 1, .null)] (pc' := 454) (L' := [some (.ref (qo q)), some (.ref (A 0)), some (.int (nI (gT σ))), some (.int (gLn σ (gT σ))), some (.ref ha), some (.ref og), some (.int (nI rich)), none, none, none]) (st' := [.int (gLn σ (gT σ)), .double (mn (gLn σ (gT σ)) (gTo σ (gT σ)))]) (by decide +kernel) rfl ?_
                  refine V.if_ne hF (off := 7) (tgt := 461) (by decide +kernel) (by decide) (fun c2 => ?_) (fun c2 => ?_)
                  · skip
                    refine V.run hF [(.aload_n 0, 1, .null)] (pc' := 462) (L' := [some (.ref (qo q)), some (.ref (A 0)), some (.int (nI (gT σ))), some (.int (gLn σ (gT σ))), some (.ref ha), some (.ref og), some (.int (nI rich)), none, none, none]) (st' := [.ref (qo q), .double (mn (gLn σ (gT σ)) (gTo σ (gT σ)))]) (by decide +kernel) rfl ?_
                    refine V.callV (As := []) (st := [.double (mn (gLn σ (gT σ)) (gTo σ (gT σ)))]) hG hF k_RX4_98 (by decide +kernel) (c_X4_total hG hS2 hT8 hR.2.2.2) (xh _ _ s1) rfl rfl ⟨by rw [hRm]; decide, by rw [hRm]; decide⟩ (Nat.le_of_ble_eq_true rfl) rfl (fun v h_11 gp11 => ?_) (fun E h9 hx => hx.elim)
                    obtain ⟨rfl, he_gp11⟩ := gp11
                    rw [he_gp11]
                    show V G F _ _ _ 465 [some (.ref (qo q)), some (.ref (A 0)), some (.int (nI (gT σ))), some (.int (gLn σ (gT σ))), some (.ref ha), some (.ref og), some (.int (nI rich)), none, none, none] [.int (gTo σ (gT σ)), .double (mn (gLn σ (gT σ)) (gTo σ (gT σ)))] hh
                    refine V.run hF [(.i2d, 1, .null), (.iload_n 3, 1, .null), (.i2d, 1, .null)] (pc' := 468) (L' := [some (.ref (qo q)), some (.ref (A 0)), some (.int (nI (gT σ))), some (.int (gLn σ (gT σ))), some (.ref ha), some (.ref og), some (.int (nI rich)), none, none, none]) (st' := [.double (FP.i2d (gLn σ (gT σ))), .double (FP.i2d (gTo σ (gT σ))), .double (mn (gLn σ (gT σ)) (gTo σ (gT σ)))]) (by decide +kernel) rfl ?_
                    refine V.ddiv hF (by decide +kernel) (dv_n64 _ _ c2) ?_
                    have em : FP.ddiv (FP.i2d (gTo σ (gT σ))) (FP.i2d (gLn σ (gT σ))) = mn (gLn σ (gT σ)) (gTo σ (gT σ)) := by rw [mn, if_neg c2]
                    rw [em]
                    refine V.run hF [(.dcmp .l, 1, .null)] (pc' := 470) (L' := [some (.ref (qo q)), some (.ref (A 0)), some (.int (nI (gT σ))), some (.int (gLn σ (gT σ))), some (.ref ha), some (.ref og), some (.int (nI rich)), none, none, none]) (st' := [.int (Op.cmpValue (FP.dcmp (mn (gLn σ (gT σ)) (gTo σ (gT σ))) (mn (gLn σ (gT σ)) (gTo σ (gT σ)))) .l)]) (by decide +kernel) rfl ?_
                    refine V.if_ne hF (off := 7) (tgt := 477) (by decide +kernel) (by decide) (fun c3 => ?_) (fun c3 => ?_)
                    · exact absurd (mn_self _ _) c3
                    · skip
                      refine V.run hF [(.iconst 1, 1, .int 1), (.goto 4, 3, .null)] (pc' := 478) (L' := [some (.ref (qo q)), some (.ref (A 0)), some (.int (nI (gT σ))), some (.int (gLn σ (gT σ))), some (.ref ha), some (.ref og), some (.int (nI rich)), none, none, none]) (st' := [.int 1]) (by decide +kernel) rfl ?_
                      exact V.retz hF (by decide +kernel) rfl rfl
                  · skip
                    have em : mn (gLn σ (gT σ)) (gTo σ (gT σ)) = 0 := by rw [mn, if_pos c2]
                    rw [em]
                    refine V.dconst0 hF (by decide +kernel) ?_
                    refine V.run hF [(.goto 11, 3, .null)] (pc' := 469) (L' := [some (.ref (qo q)), some (.ref (A 0)), some (.int (nI (gT σ))), some (.int (gLn σ (gT σ))), some (.ref ha), some (.ref og), some (.int (nI rich)), none, none, none]) (st' := [.double 0, .double 0]) (by decide +kernel) rfl ?_
                    refine V.run hF [(.dcmp .l, 1, .null)] (pc' := 470) (L' := [some (.ref (qo q)), some (.ref (A 0)), some (.int (nI (gT σ))), some (.int (gLn σ (gT σ))), some (.ref ha), some (.ref og), some (.int (nI rich)), none, none, none]) (st' := [.int (Op.cmpValue (FP.dcmp 0 0) .l)]) (by decide +kernel) rfl ?_
                    refine V.if_ne hF (off := 7) (tgt := 477) (by decide +kernel) (by decide) (fun c3 => ?_) (fun c3 => ?_)
                    · exact absurd (by rw [← em]; exact mn_self _ _) c3
                    · skip
                      refine V.run hF [(.iconst 1, 1, .int 1), (.goto 4, 3, .null)] (pc' := 478) (L' := [some (.ref (qo q)), some (.ref (A 0)), some (.int (nI (gT σ))), some (.int (gLn σ (gT σ))), some (.ref ha), some (.ref og), some (.int (nI rich)), none, none, none]) (st' := [.int 1]) (by decide +kernel) rfl ?_
                      exact V.retz hF (by decide +kernel) rfl rfl
  -- persons
  have persons : ∀ p, p ≤ 8 → ∀ (hh : Hp) (fh : Nat → Int32) (L8 L9 : Option Value), Ex h hh → hh ha = some (.inl (0, 8, .inl fh)) → (∀ x, x < 8 → fh x = balT σ (nI x) (gT σ)) → OG hh og (fun a b => gOw σ (nI a) (nI b) (gT σ)) → V G F (fin G F sameP pxN) (100 + 30 * (8 - p)) (100 + 200 * (8 - p)) 281 [some (.ref (qo q)), some (.ref (A 0)), some (.int (nI (gT σ))), some (.int (gLn σ (gT σ))), some (.ref ha), some (.ref og), some (.int (nI (pmax (hb σ) (p - 1)))), some (.int (nI p)), L8, L9] [] hh := by
    refine lp_up 8 fun p hp ih hh fh L8 L9 xh c1 c2 o => ?_
    have hC2 := hC.ex xh
    have r8 : pmax (hb σ) (p - 1) < 8 := by
      have := pmax_le (hb σ) (p - 1)
      omega
    have es := pmx_s (b := fun p => balT σ (nI p) (gT σ)) (p := p)
    obtain ⟨rich, er⟩ : ∃ z, z = pmax (hb σ) (p - 1) := ⟨_, rfl⟩
    rw [← er] at r8 es ⊢
    refine V.loc (L' := [some (.ref (qo q)), some (.ref (A 0)), some (.int (nI (gT σ))), some (.int (gLn σ (gT σ))), some (.ref ha), some (.ref og), some (.int (nI rich)), some (.int (nI p)), none, none]) (fun j v hv => by
      match j, hv with
      | 0, hv => exact hv
      | 1, hv => exact hv
      | 2, hv => exact hv
      | 3, hv => exact hv
      | 4, hv => exact hv
      | 5, hv => exact hv
      | 6, hv => exact hv
      | 7, hv => exact hv
      | 8, hv => cases hv
      | 9, hv => cases hv
      | zz + 10, hv => cases hv) ?_
    refine V.run hF [(.iload 7, 2, .null), (.bipush 8, 2, .int (nI 8))] (pc' := 285) (L' := [some (.ref (qo q)), some (.ref (A 0)), some (.int (nI (gT σ))), some (.int (gLn σ (gT σ))), some (.ref ha), some (.ref og), some (.int (nI rich)), some (.int (nI p)), none, none]) (st' := [.int (nI 8), .int (nI p)]) (by decide +kernel) rfl ?_
    refine V.icmpN_ge (i := p) (j := 8) hF (off := 95) (tgt := 380) (by decide +kernel) (by decide) (by omega) (by omega) (fun d1 => ?_) (fun d1 => ?_)
    · have e8 : p = 8 := by omega
      refine V.less (kc' := 100) (ks' := 100) (by omega) (by omega) ?_
      exact final hh rich _ _ _ xh (by rw [er, e8])
    · skip
      -- from 305: the rest of the round, with the new richest
      have rest : ∀ rich', rich' = pmax (hb σ) ((p + 1) - 1) → V G F (fin G F sameP pxN) (100 + 30 * (8 - p)) (100 + 200 * (8 - p)) 305 [some (.ref (qo q)), some (.ref (A 0)), some (.int (nI (gT σ))), some (.int (gLn σ (gT σ))), some (.ref ha), some (.ref og), some (.int (nI rich')), some (.int (nI p)), none, none] [] hh := by
        intro rich' er'
        refine V.run hF [(.aload_n 1, 1, .null), (.iload 7, 2, .null)] (pc' := 308) (L' := [some (.ref (qo q)), some (.ref (A 0)), some (.int (nI (gT σ))), some (.int (gLn σ (gT σ))), some (.ref ha), some (.ref og), some (.int (nI rich')), some (.int (nI p)), none, none]) (st' := [.int (nI p), .ref (A 0)]) (by decide +kernel) rfl ?_
        refine V.less (kc' := (100 + 30 * (7 - p) + 17) + 1) (ks' := (100 + 200 * (7 - p) + 102) + 6) (by omega) (by omega) ?_
        refine V.callV (As := [.int (nI p)]) (st := []) hG hF k_RX4_73 (by decide +kernel) (hp_isThere hG hC2 hR d1) (xh _ _ gA) rfl rfl ⟨by rw [hRm]; decide, by rw [hRm]; decide⟩ (Nat.le_of_ble_eq_true rfl) rfl (fun v h_12 gp12 => ?_) (fun E h9 hx => hx.elim)
        obtain ⟨rfl, he_gp12⟩ := gp12
        rw [he_gp12]
        show V G F _ _ _ 311 [some (.ref (qo q)), some (.ref (A 0)), some (.int (nI (gT σ))), some (.int (gLn σ (gT σ))), some (.ref ha), some (.ref og), some (.int (nI rich')), some (.int (nI p)), none, none] [.int (gth σ p)] hh
        refine V.run hF [(.aload_n 0, 1, .null)] (pc' := 312) (L' := [some (.ref (qo q)), some (.ref (A 0)), some (.int (nI (gT σ))), some (.int (gLn σ (gT σ))), some (.ref ha), some (.ref og), some (.int (nI rich')), some (.int (nI p)), none, none]) (st' := [.ref (qo q), .int (gth σ p)]) (by decide +kernel) rfl ?_
        refine V.getf hG hF k_RX4_7 (by decide +kernel) (xh _ _ s1) rfl ?_
        refine V.run hF [(.iload 7, 2, .null)] (pc' := 317) (L' := [some (.ref (qo q)), some (.ref (A 0)), some (.int (nI (gT σ))), some (.int (gLn σ (gT σ))), some (.ref ha), some (.ref og), some (.int (nI rich')), some (.int (nI p)), none, none]) (st' := [.int (nI p), .ref (qth q), .int (gth σ p)]) (by decide +kernel) rfl ?_
        refine V.zaldN (j := p) hG hF (by decide +kernel) (xh _ _ s2) (by omega) (by first | decide | omega) ?_
        refine V.icmp_ne hF (off := 17) (tgt := 335) (by decide +kernel) (by decide) (fun d3 => ?_) (fun d3 => ?_)
        · exact absurd rfl d3
        · skip
          refine V.run hF [(.aload_n 1, 1, .null), (.iload 7, 2, .null)] (pc' := 324) (L' := [some (.ref (qo q)), some (.ref (A 0)), some (.int (nI (gT σ))), some (.int (gLn σ (gT σ))), some (.ref ha), some (.ref og), some (.int (nI rich')), some (.int (nI p)), none, none]) (st' := [.int (nI p), .ref (A 0)]) (by decide +kernel) rfl ?_
          refine V.less (kc' := (100 + 30 * (7 - p) + 16) + 1) (ks' := (100 + 200 * (7 - p) + 96) + 6) (by omega) (by omega) ?_
          refine V.callV (As := [.int (nI p)]) (st := []) hG hF k_RX4_76 (by decide +kernel) (hp_has hG hC2 d1) (xh _ _ gA) rfl rfl ⟨by rw [hRm]; decide, by rw [hRm]; decide⟩ (Nat.le_of_ble_eq_true rfl) rfl (fun v h_13 gp13 => ?_) (fun E h9 hx => hx.elim)
          obtain ⟨rfl, he_gp13⟩ := gp13
          rw [he_gp13]
          show V G F _ _ _ 327 [some (.ref (qo q)), some (.ref (A 0)), some (.int (nI (gT σ))), some (.int (gLn σ (gT σ))), some (.ref ha), some (.ref og), some (.int (nI rich')), some (.int (nI p)), none, none] [.int (balT σ (nI p) (gT σ))] hh
          refine V.run hF [(.aload 4, 2, .null), (.iload 7, 2, .null)] (pc' := 331) (L' := [some (.ref (qo q)), some (.ref (A 0)), some (.int (nI (gT σ))), some (.int (gLn σ (gT σ))), some (.ref ha), some (.ref og), some (.int (nI rich')), some (.int (nI p)), none, none]) (st' := [.int (nI p), .ref ha, .int (balT σ (nI p) (gT σ))]) (by decide +kernel) rfl ?_
          refine V.ialdN (j := p) hG hF (by decide +kernel) c1 (by omega) (by first | decide | omega) ?_
          rw [c2 p d1]
          refine V.icmp_eq hF (off := 5) (tgt := 337) (by decide +kernel) (by decide) (fun d4 => ?_) (fun d4 => ?_)
          · have inner : ∀ j, j ≤ 8 → V G F (fin G F sameP pxN) (100 + 30 * (7 - p) + 2 * (8 - j)) (100 + 200 * (7 - p) + 12 * (8 - j)) 340 [some (.ref (qo q)), some (.ref (A 0)), some (.int (nI (gT σ))), some (.int (gLn σ (gT σ))), some (.ref ha), some (.ref og), some (.int (nI rich')), some (.int (nI p)), some (.int (nI j)), none] [] hh := by
              refine lp_up 8 fun j hj jh => ?_
              obtain ⟨⟨g3, k1, k2⟩, k3⟩ := id o
              obtain ⟨fo, k4, k5⟩ := k3 p d1
              refine V.run hF [(.iload 8, 2, .null), (.bipush 8, 2, .int (nI 8))] (pc' := 344) (L' := [some (.ref (qo q)), some (.ref (A 0)), some (.int (nI (gT σ))), some (.int (gLn σ (gT σ))), some (.ref ha), some (.ref og), some (.int (nI rich')), some (.int (nI p)), some (.int (nI j)), none]) (st' := [.int (nI 8), .int (nI j)]) (by decide +kernel) rfl ?_
              refine V.icmpN_ge (i := j) (j := 8) hF (off := 30) (tgt := 374) (by decide +kernel) (by decide) (by omega) (by omega) (fun d5 => ?_) (fun d5 => ?_)
              · skip
                refine V.run hF [(.iinc 7 1, 3, .int 1), (.goto (-96), 3, .null)] (pc' := 281) (L' := [some (.ref (qo q)), some (.ref (A 0)), some (.int (nI (gT σ))), some (.int (gLn σ (gT σ))), some (.ref ha), some (.ref og), some (.int (nI rich')), some (.int ((nI p) + 1)), some (.int (nI j)), none]) (st' := []) (by decide +kernel) rfl ?_
                rw [nI_1 p]
                rw [er']
                refine V.less (kc' := 100 + 30 * (8 - (p + 1))) (ks' := 100 + 200 * (8 - (p + 1))) (by omega) (by omega) ?_
                exact ih d1 hh fh _ _ xh c1 c2 o
              · skip
                refine V.run hF [(.aload_n 1, 1, .null), (.iload 7, 2, .null), (.iload 8, 2, .null)] (pc' := 352) (L' := [some (.ref (qo q)), some (.ref (A 0)), some (.int (nI (gT σ))), some (.int (gLn σ (gT σ))), some (.ref ha), some (.ref og), some (.int (nI rich')), some (.int (nI p)), some (.int (nI j)), none]) (st' := [.int (nI j), .int (nI p), .ref (A 0)]) (by decide +kernel) rfl ?_
                refine V.less (kc' := (100 + 30 * (7 - p) + 2 * (8 - (j + 1))) + 2) (ks' := (100 + 200 * (7 - p) + 12 * (8 - (j + 1))) + 12) (by omega) (by omega) ?_
                refine V.callV (As := [.int (nI p), .int (nI j)]) (st := []) hG hF k_RX4_78 (by decide +kernel) (hp_owes hG hC2 d1 d5) (xh _ _ gA) rfl rfl ⟨by rw [hRm]; decide, by rw [hRm]; decide⟩ (Nat.le_of_ble_eq_true rfl) rfl (fun v h_14 gp14 => ?_) (fun E h9 hx => hx.elim)
                obtain ⟨rfl, he_gp14⟩ := gp14
                rw [he_gp14]
                show V G F _ _ _ 355 [some (.ref (qo q)), some (.ref (A 0)), some (.int (nI (gT σ))), some (.int (gLn σ (gT σ))), some (.ref ha), some (.ref og), some (.int (nI rich')), some (.int (nI p)), some (.int (nI j)), none] [.int (gOw σ (nI p) (nI j) (gT σ))] hh
                refine V.run hF [(.aload 5, 2, .null), (.iload 7, 2, .null)] (pc' := 359) (L' := [some (.ref (qo q)), some (.ref (A 0)), some (.int (nI (gT σ))), some (.int (gLn σ (gT σ))), some (.ref ha), some (.ref og), some (.int (nI rich')), some (.int (nI p)), some (.int (nI j)), none]) (st' := [.int (nI p), .ref og, .int (gOw σ (nI p) (nI j) (gT σ))]) (by decide +kernel) rfl ?_
                refine V.aaldS (j := p) (b := (og + 1 + p)) hG hF (by decide +kernel) k1 (by omega) (by first | decide | omega) (k2 p d1) ?_
                refine V.run hF [(.iload 8, 2, .null)] (pc' := 362) (L' := [some (.ref (qo q)), some (.ref (A 0)), some (.int (nI (gT σ))), some (.int (gLn σ (gT σ))), some (.ref ha), some (.ref og), some (.int (nI rich')), some (.int (nI p)), some (.int (nI j)), none]) (st' := [.int (nI j), .ref (og + 1 + p), .int (gOw σ (nI p) (nI j) (gT σ))]) (by decide +kernel) rfl ?_
                refine V.ialdN (j := j) hG hF (by decide +kernel) k4 (by omega) (by first | decide | omega) ?_
                rw [k5 j d5]
                refine V.icmp_eq hF (off := 5) (tgt := 368) (by decide +kernel) (by decide) (fun d6 => ?_) (fun d6 => ?_)
                · skip
                  refine V.run hF [(.iinc 8 1, 3, .int 1), (.goto (-31), 3, .null)] (pc' := 340) (L' := [some (.ref (qo q)), some (.ref (A 0)), some (.int (nI (gT σ))), some (.int (gLn σ (gT σ))), some (.ref ha), some (.ref og), some (.int (nI rich')), some (.int (nI p)), some (.int ((nI j) + 1)), none]) (st' := []) (by decide +kernel) rfl ?_
                  rw [nI_1 j]
                  exact jh d5
                · skip
                  exact absurd rfl d6
            refine V.run hF [(.iconst 0, 1, .int (nI 0)), (.istore 8, 2, .null)] (pc' := 340) (L' := [some (.ref (qo q)), some (.ref (A 0)), some (.int (nI (gT σ))), some (.int (gLn σ (gT σ))), some (.ref ha), some (.ref og), some (.int (nI rich')), some (.int (nI p)), some (.int (nI 0)), none]) (st' := []) (by decide +kernel) rfl ?_
            refine V.less (kc' := 100 + 30 * (7 - p) + 2 * (8 - 0)) (ks' := 100 + 200 * (7 - p) + 12 * (8 - 0)) (by omega) (by omega) ?_
            exact inner 0 (Nat.zero_le _)
          · skip
            exact absurd rfl d4
      refine V.run hF [(.aload 4, 2, .null), (.iload 7, 2, .null)] (pc' := 292) (L' := [some (.ref (qo q)), some (.ref (A 0)), some (.int (nI (gT σ))), some (.int (gLn σ (gT σ))), some (.ref ha), some (.ref og), some (.int (nI rich)), some (.int (nI p)), none, none]) (st' := [.int (nI p), .ref ha]) (by decide +kernel) rfl ?_
      refine V.ialdN (j := p) hG hF (by decide +kernel) c1 (by omega) (by first | decide | omega) ?_
      refine V.run hF [(.aload 4, 2, .null), (.iload 6, 2, .null)] (pc' := 297) (L' := [some (.ref (qo q)), some (.ref (A 0)), some (.int (nI (gT σ))), some (.int (gLn σ (gT σ))), some (.ref ha), some (.ref og), some (.int (nI rich)), some (.int (nI p)), none, none]) (st' := [.int (nI rich), .ref ha, .int (fh p)]) (by decide +kernel) rfl ?_
      refine V.ialdN (j := rich) hG hF (by decide +kernel) c1 (by omega) (by first | decide | omega) ?_
      rw [c2 p d1, c2 rich r8]
      refine V.icmp_le hF (off := 7) (tgt := 305) (by decide +kernel) (by decide) (fun d2 => ?_) (fun d2 => ?_)
      · refine rest rich ?_
        rw [es, if_neg (Int32.not_lt.mpr d2)]
      · skip
        refine V.run hF [(.iload 7, 2, .null), (.istore 6, 2, .null)] (pc' := 305) (L' := [some (.ref (qo q)), some (.ref (A 0)), some (.int (nI (gT σ))), some (.int (gLn σ (gT σ))), some (.ref ha), some (.ref og), some (.int (nI p)), some (.int (nI p)), none, none]) (st' := []) (by decide +kernel) rfl ?_
        refine rest p ?_
        rw [es, if_pos (Int32.not_le.mp d2)]
  -- tablets
  have tabs : ∀ t, t ≤ gT σ → ∀ (hh : Hp) (fh : Nat → Int32) (L7 L8 L9 : Option Value), Ex h hh → hh ha = some (.inl (0, 8, .inl fh)) → (∀ x, x < 8 → fh x = balT σ (nI x) t) → OG hh og (fun a b => gOw σ (nI a) (nI b) t) → V G F (fin G F sameP pxN) (350 + 200 * (8 - t)) (1800 + 1000 * (8 - t)) 27 [some (.ref (qo q)), some (.ref (A 0)), some (.int (nI (gT σ))), some (.int (gLn σ t)), some (.ref ha), some (.ref og), some (.int (nI t)), L7, L8, L9] [] hh := by
    refine lp_up (gT σ) fun t ht ih hh fh L7 L8 L9 xh c1 c2 o => ?_
    have hC2 := hC.ex xh
    refine V.loc (L' := [some (.ref (qo q)), some (.ref (A 0)), some (.int (nI (gT σ))), some (.int (gLn σ t)), some (.ref ha), some (.ref og), some (.int (nI t)), none, none, none]) (fun j v hv => by
      match j, hv with
      | 0, hv => exact hv
      | 1, hv => exact hv
      | 2, hv => exact hv
      | 3, hv => exact hv
      | 4, hv => exact hv
      | 5, hv => exact hv
      | 6, hv => exact hv
      | 7, hv => cases hv
      | 8, hv => cases hv
      | 9, hv => cases hv
      | zz + 10, hv => cases hv) ?_
    refine V.run hF [(.iload 6, 2, .null), (.iload_n 2, 1, .null)] (pc' := 30) (L' := [some (.ref (qo q)), some (.ref (A 0)), some (.int (nI (gT σ))), some (.int (gLn σ t)), some (.ref ha), some (.ref og), some (.int (nI t)), none, none, none]) (st' := [.int (nI (gT σ)), .int (nI t)]) (by decide +kernel) rfl ?_
    refine V.icmpN_ge (i := t) (j := gT σ) hF (off := 245) (tgt := 275) (by decide +kernel) (by decide) (by omega) (by omega) (fun d1 => ?_) (fun d1 => ?_)
    · have e8 : t = gT σ := by omega
      rw [e8] at c2 o ⊢
      refine V.run hF [(.iconst 0, 1, .int (nI 0)), (.istore 6, 2, .null), (.iconst 0, 1, .int (nI 0)), (.istore 7, 2, .null)] (pc' := 281) (L' := [some (.ref (qo q)), some (.ref (A 0)), some (.int (nI (gT σ))), some (.int (gLn σ (gT σ))), some (.ref ha), some (.ref og), some (.int (nI 0)), some (.int (nI 0)), none, none]) (st' := []) (by decide +kernel) rfl ?_
      refine V.less (kc' := 100 + 30 * (8 - 0)) (ks' := 100 + 200 * (8 - 0)) (by omega) (by omega) ?_
      exact persons 0 (Nat.zero_le _) hh fh _ _ xh c1 c2 o
    · skip
      have t8 : t < 8 := by omega
      obtain ⟨e7, hw⟩ := s7 t t8
      rw [gm_in d1] at hw
      obtain ⟨⟨g3, w1, w2⟩, w3⟩ := id hw
      obtain ⟨e5, f5, e6, f50, f51⟩ := s5 t d1
      have h12 := hR.2.2.2 t d1
      refine V.run hF [(.aload_n 0, 1, .null)] (pc' := 34) (L' := [some (.ref (qo q)), some (.ref (A 0)), some (.int (nI (gT σ))), some (.int (gLn σ t)), some (.ref ha), some (.ref og), some (.int (nI t)), none, none, none]) (st' := [.ref (qo q)]) (by decide +kernel) rfl ?_
      refine V.getf hG hF k_RX4_24 (by decide +kernel) (xh _ _ s1) rfl ?_
      refine V.run hF [(.iload 6, 2, .null)] (pc' := 39) (L' := [some (.ref (qo q)), some (.ref (A 0)), some (.int (nI (gT σ))), some (.int (gLn σ t)), some (.ref ha), some (.ref og), some (.int (nI t)), none, none, none]) (st' := [.int (nI t), .ref (qli q)]) (by decide +kernel) rfl ?_
      refine V.aaldS (j := t) (b := (qla q t)) hG hF (by decide +kernel) (xh _ _ s6) (by omega) (by first | decide | omega) e7 ?_
      refine V.less (kc' := (350 + 200 * (7 - t) + 199) + 1) (ks' := (1800 + 1000 * (7 - t) + 992) + 8) (by omega) (by omega) ?_
      refine V.callS (As := [.ref (qla q t)]) (st := []) hG hF k_RX4_27 (by decide +kernel) (c_X4_has hG (hw.ex xh) h12 (fun j hj => by obtain ⟨b1, b2, -, b3⟩ := hR.2.2.1 t j d1 hj; exact ⟨b1, b2, b3⟩)) rfl ⟨by rw [hRm]; decide, by rw [hRm]; decide⟩ (Nat.le_of_ble_eq_true rfl) rfl (fun v h3 hp3 => ?_) (fun E h9 hx => hx.elim)
      obtain ⟨ii, ff, hv, i1, i2, i3, i4⟩ := hp3
      rw [hv]
      have x3 : Ex hh h3 := Ex.new i1 i4
      have xh3 : Ex h h3 := xh.tr x3
      have hC3 := hC.ex xh3
      have nii : ha ≠ ii := ne_new c1 i1
      show V G F _ _ _ 43 [some (.ref (qo q)), some (.ref (A 0)), some (.int (nI (gT σ))), some (.int (gLn σ t)), some (.ref ha), some (.ref og), some (.int (nI t)), none, none, none] [.ref ii] h3
      refine V.run hF [(.astore 7, 2, .null), (.iload_n 3, 1, .null), (.aload_n 0, 1, .null)] (pc' := 47) (L' := [some (.ref (qo q)), some (.ref (A 0)), some (.int (nI (gT σ))), some (.int (gLn σ t)), some (.ref ha), some (.ref og), some (.int (nI t)), some (.ref ii), none, none]) (st' := [.ref (qo q), .int (gLn σ t)]) (by decide +kernel) rfl ?_
      refine V.getf hG hF k_RX4_24 (by decide +kernel) (xh3 _ _ s1) rfl ?_
      refine V.run hF [(.iload 6, 2, .null)] (pc' := 52) (L' := [some (.ref (qo q)), some (.ref (A 0)), some (.int (nI (gT σ))), some (.int (gLn σ t)), some (.ref ha), some (.ref og), some (.int (nI t)), some (.ref ii), none, none]) (st' := [.int (nI t), .ref (qli q), .int (gLn σ t)]) (by decide +kernel) rfl ?_
      refine V.aaldS (j := t) (b := (qla q t)) hG hF (by decide +kernel) (xh3 _ _ s6) (by omega) (by first | decide | omega) e7 ?_
      refine V.alen hG hF (by decide +kernel) (by decide) (xh3 _ _ w1) ?_
      show V G F _ _ _ 54 [some (.ref (qo q)), some (.ref (A 0)), some (.int (nI (gT σ))), some (.int (gLn σ t)), some (.ref ha), some (.ref og), some (.int (nI t)), some (.ref ii), none, none] [.int (nI (gn σ t)), .int (gLn σ t)] h3
      refine V.run hF [(.iadd, 1, .null), (.istore_n 3, 1, .null), (.aload_n 1, 1, .null), (.iload 6, 2, .null)] (pc' := 59) (L' := [some (.ref (qo q)), some (.ref (A 0)), some (.int (nI (gT σ))), some (.int (gLn σ t + nI (gn σ t))), some (.ref ha), some (.ref og), some (.int (nI t)), some (.ref ii), none, none]) (st' := [.int (nI t), .ref (A 0)]) (by decide +kernel) rfl ?_
      refine V.less (kc' := (350 + 200 * (7 - t) + 197) + 2) (ks' := (1800 + 1000 * (7 - t) + 980) + 12) (by omega) (by omega) ?_
      refine V.callV (As := [.int (nI t)]) (st := []) hG hF k_RX4_47 (by decide +kernel) (hp_linesOf hG hC3 d1) (xh3 _ _ gA) rfl rfl ⟨by rw [hRm]; decide, by rw [hRm]; decide⟩ (Nat.le_of_ble_eq_true rfl) rfl (fun v h_16 gp16 => ?_) (fun E h9 hx => hx.elim)
      obtain ⟨rfl, he_gp16⟩ := gp16
      rw [he_gp16]
      show V G F _ _ _ 62 [some (.ref (qo q)), some (.ref (A 0)), some (.int (nI (gT σ))), some (.int (gLn σ t + nI (gn σ t))), some (.ref ha), some (.ref og), some (.int (nI t)), some (.ref ii), none, none] [.int (nI (gn σ t))] h3
      refine V.run hF [(.aload_n 0, 1, .null)] (pc' := 63) (L' := [some (.ref (qo q)), some (.ref (A 0)), some (.int (nI (gT σ))), some (.int (gLn σ t + nI (gn σ t))), some (.ref ha), some (.ref og), some (.int (nI t)), some (.ref ii), none, none]) (st' := [.ref (qo q), .int (nI (gn σ t))]) (by decide +kernel) rfl ?_
      refine V.getf hG hF k_RX4_24 (by decide +kernel) (xh3 _ _ s1) rfl ?_
      refine V.run hF [(.iload 6, 2, .null)] (pc' := 68) (L' := [some (.ref (qo q)), some (.ref (A 0)), some (.int (nI (gT σ))), some (.int (gLn σ t + nI (gn σ t))), some (.ref ha), some (.ref og), some (.int (nI t)), some (.ref ii), none, none]) (st' := [.int (nI t), .ref (qli q), .int (nI (gn σ t))]) (by decide +kernel) rfl ?_
      refine V.aaldS (j := t) (b := (qla q t)) hG hF (by decide +kernel) (xh3 _ _ s6) (by omega) (by first | decide | omega) e7 ?_
      refine V.alen hG hF (by decide +kernel) (by decide) (xh3 _ _ w1) ?_
      show V G F _ _ _ 70 [some (.ref (qo q)), some (.ref (A 0)), some (.int (nI (gT σ))), some (.int (gLn σ t + nI (gn σ t))), some (.ref ha), some (.ref og), some (.int (nI t)), some (.ref ii), none, none] [.int (nI (gn σ t)), .int (nI (gn σ t))] h3
      refine V.icmp_ne hF (off := 30) (tgt := 100) (by decide +kernel) (by decide) (fun d2 => ?_) (fun d2 => ?_)
      · exact absurd rfl d2
      · skip
        refine V.run hF [(.aload_n 1, 1, .null), (.iload 6, 2, .null)] (pc' := 76) (L' := [some (.ref (qo q)), some (.ref (A 0)), some (.int (nI (gT σ))), some (.int (gLn σ t + nI (gn σ t))), some (.ref ha), some (.ref og), some (.int (nI t)), some (.ref ii), none, none]) (st' := [.int (nI t), .ref (A 0)]) (by decide +kernel) rfl ?_
        refine V.less (kc' := (350 + 200 * (7 - t) + 195) + 2) (ks' := (1800 + 1000 * (7 - t) + 968) + 12) (by omega) (by omega) ?_
        refine V.callV (As := [.int (nI t)]) (st := []) hG hF k_RX4_53 (by decide +kernel) (hp_isInCellar hG hC3 hR d1) (xh3 _ _ gA) rfl rfl ⟨by rw [hRm]; decide, by rw [hRm]; decide⟩ (Nat.le_of_ble_eq_true rfl) rfl (fun v h_17 gp17 => ?_) (fun E h9 hx => hx.elim)
        obtain ⟨rfl, he_gp17⟩ := gp17
        rw [he_gp17]
        show V G F _ _ _ 79 [some (.ref (qo q)), some (.ref (A 0)), some (.int (nI (gT σ))), some (.int (gLn σ t + nI (gn σ t))), some (.ref ha), some (.ref og), some (.int (nI t)), some (.ref ii), none, none] [.int (gce σ t)] h3
        refine V.run hF [(.aload_n 0, 1, .null)] (pc' := 80) (L' := [some (.ref (qo q)), some (.ref (A 0)), some (.int (nI (gT σ))), some (.int (gLn σ t + nI (gn σ t))), some (.ref ha), some (.ref og), some (.int (nI t)), some (.ref ii), none, none]) (st' := [.ref (qo q), .int (gce σ t)]) (by decide +kernel) rfl ?_
        refine V.getf hG hF k_RX4_18 (by decide +kernel) (xh3 _ _ s1) rfl ?_
        refine V.run hF [(.iload 6, 2, .null)] (pc' := 85) (L' := [some (.ref (qo q)), some (.ref (A 0)), some (.int (nI (gT σ))), some (.int (gLn σ t + nI (gn σ t))), some (.ref ha), some (.ref og), some (.int (nI t)), some (.ref ii), none, none]) (st' := [.int (nI t), .ref (qta q), .int (gce σ t)]) (by decide +kernel) rfl ?_
        refine V.aaldS (j := t) (b := (qtr q t)) hG hF (by decide +kernel) (xh3 _ _ s4) (by omega) (by first | decide | omega) e5 ?_
        refine V.run hF [(.iconst 1, 1, .int (nI 1))] (pc' := 87) (L' := [some (.ref (qo q)), some (.ref (A 0)), some (.int (nI (gT σ))), some (.int (gLn σ t + nI (gn σ t))), some (.ref ha), some (.ref og), some (.int (nI t)), some (.ref ii), none, none]) (st' := [.int (nI 1), .ref (qtr q t), .int (gce σ t)]) (by decide +kernel) rfl ?_
        refine V.ialdN (j := 1) hG hF (by decide +kernel) (xh3 _ _ e6) (by omega) (by first | decide | omega) ?_
        rw [f51]
        -- the lines, l of them done
        have lines : ∀ l, l ≤ gn σ t → ∀ (h4 : Hp) (L9 : Option Value), Ex h h4 → (∃ f, h4 ha = some (.inl (0, 8, .inl f)) ∧ ∀ x, x < 8 → f x = balT σ (nI x) (t + 1)) → OG h4 og (valp σ t l) → V G F (fin G F sameP pxN) (350 + 200 * (7 - t) + 12 * (12 - l)) (1800 + 1000 * (7 - t) + 72 * (12 - l)) 152 [some (.ref (qo q)), some (.ref (A 0)), some (.int (nI (gT σ))), some (.int (gLn σ (t + 1))), some (.ref ha), some (.ref og), some (.int (nI t)), some (.ref ii), some (.int (nI l)), L9] [] h4 := by
          refine lp_up (gn σ t) fun l hl lh h4 L9 xh4 cha o4 => ?_
          have hC4 := hC.ex xh4
          obtain ⟨f4, ca1, ca2⟩ := cha
          refine V.loc (L' := [some (.ref (qo q)), some (.ref (A 0)), some (.int (nI (gT σ))), some (.int (gLn σ (t + 1))), some (.ref ha), some (.ref og), some (.int (nI t)), some (.ref ii), some (.int (nI l)), none]) (fun j v hv => by
            match j, hv with
            | 0, hv => exact hv
            | 1, hv => exact hv
            | 2, hv => exact hv
            | 3, hv => exact hv
            | 4, hv => exact hv
            | 5, hv => exact hv
            | 6, hv => exact hv
            | 7, hv => exact hv
            | 8, hv => exact hv
            | 9, hv => cases hv
            | zz + 10, hv => cases hv) ?_
          refine V.run hF [(.iload 8, 2, .null), (.aload_n 0, 1, .null)] (pc' := 155) (L' := [some (.ref (qo q)), some (.ref (A 0)), some (.int (nI (gT σ))), some (.int (gLn σ (t + 1))), some (.ref ha), some (.ref og), some (.int (nI t)), some (.ref ii), some (.int (nI l)), none]) (st' := [.ref (qo q), .int (nI l)]) (by decide +kernel) rfl ?_
          refine V.getf hG hF k_RX4_24 (by decide +kernel) (xh4 _ _ s1) rfl ?_
          refine V.run hF [(.iload 6, 2, .null)] (pc' := 160) (L' := [some (.ref (qo q)), some (.ref (A 0)), some (.int (nI (gT σ))), some (.int (gLn σ (t + 1))), some (.ref ha), some (.ref og), some (.int (nI t)), some (.ref ii), some (.int (nI l)), none]) (st' := [.int (nI t), .ref (qli q), .int (nI l)]) (by decide +kernel) rfl ?_
          refine V.aaldS (j := t) (b := (qla q t)) hG hF (by decide +kernel) (xh4 _ _ s6) (by omega) (by first | decide | omega) e7 ?_
          refine V.alen hG hF (by decide +kernel) (by decide) (xh4 _ _ w1) ?_
          show V G F _ _ _ 162 [some (.ref (qo q)), some (.ref (A 0)), some (.int (nI (gT σ))), some (.int (gLn σ (t + 1))), some (.ref ha), some (.ref og), some (.int (nI t)), some (.ref ii), some (.int (nI l)), none] [.int (nI (gn σ t)), .int (nI l)] h4
          refine V.icmpN_ge (i := l) (j := gn σ t) hF (off := 107) (tgt := 269) (by decide +kernel) (by decide) (by omega) (by omega) (fun z1 => ?_) (fun z1 => ?_)
          · have el : l = gn σ t := by omega
            refine V.run hF [(.iinc 6 1, 3, .int 1), (.goto (-245), 3, .null)] (pc' := 27) (L' := [some (.ref (qo q)), some (.ref (A 0)), some (.int (nI (gT σ))), some (.int (gLn σ (t + 1))), some (.ref ha), some (.ref og), some (.int ((nI t) + 1)), some (.ref ii), some (.int (nI l)), none]) (st' := []) (by decide +kernel) rfl ?_
            rw [nI_1 t]
            rw [el] at o4
            refine V.less (kc' := 350 + 200 * (8 - (t + 1))) (ks' := 1800 + 1000 * (8 - (t + 1))) (by omega) (by omega) ?_
            exact ih d1 h4 f4 _ _ _ xh4 ca1 ca2 o4
          · skip
            obtain ⟨l1, l2, l3, l4⟩ := hR.2.2.1 t l d1 z1
            obtain ⟨fr, er, r0, r1, r2, r3⟩ := w3 l z1
            obtain ⟨d, hd, ed⟩ := inP_of l1
            obtain ⟨c, hc, ec⟩ := inP_of l2
            obtain ⟨w, hw8, ewt⟩ := inP_of l3
            obtain ⟨⟨g4, k1, k2⟩, k3⟩ := id o4
            obtain ⟨fo, k4, k5⟩ := k3 d hd
            have er4 := xh4 _ _ er
            have nro : qrr q t l ≠ og + 1 + d := nek er4 k4 nofun
            refine V.run hF [(.aload_n 0, 1, .null)] (pc' := 166) (L' := [some (.ref (qo q)), some (.ref (A 0)), some (.int (nI (gT σ))), some (.int (gLn σ (t + 1))), some (.ref ha), some (.ref og), some (.int (nI t)), some (.ref ii), some (.int (nI l)), none]) (st' := [.ref (qo q)]) (by decide +kernel) rfl ?_
            refine V.getf hG hF k_RX4_24 (by decide +kernel) (xh4 _ _ s1) rfl ?_
            refine V.run hF [(.iload 6, 2, .null)] (pc' := 171) (L' := [some (.ref (qo q)), some (.ref (A 0)), some (.int (nI (gT σ))), some (.int (gLn σ (t + 1))), some (.ref ha), some (.ref og), some (.int (nI t)), some (.ref ii), some (.int (nI l)), none]) (st' := [.int (nI t), .ref (qli q)]) (by decide +kernel) rfl ?_
            refine V.aaldS (j := t) (b := (qla q t)) hG hF (by decide +kernel) (xh4 _ _ s6) (by omega) (by first | decide | omega) e7 ?_
            refine V.run hF [(.iload 8, 2, .null)] (pc' := 174) (L' := [some (.ref (qo q)), some (.ref (A 0)), some (.int (nI (gT σ))), some (.int (gLn σ (t + 1))), some (.ref ha), some (.ref og), some (.int (nI t)), some (.ref ii), some (.int (nI l)), none]) (st' := [.int (nI l), .ref (qla q t)]) (by decide +kernel) rfl ?_
            refine V.aaldS (j := l) (b := (qrr q t l)) hG hF (by decide +kernel) (xh4 _ _ w1) (by omega) (by first | decide | omega) (w2 l z1) ?_
            refine V.run hF [(.astore 9, 2, .null), (.aload 5, 2, .null), (.aload 9, 2, .null), (.iconst 0, 1, .int (nI 0))] (pc' := 182) (L' := [some (.ref (qo q)), some (.ref (A 0)), some (.int (nI (gT σ))), some (.int (gLn σ (t + 1))), some (.ref ha), some (.ref og), some (.int (nI t)), some (.ref ii), some (.int (nI l)), some (.ref (qrr q t l))]) (st' := [.int (nI 0), .ref (qrr q t l), .ref og]) (by decide +kernel) rfl ?_
            refine V.ialdN (j := 0) hG hF (by decide +kernel) er4 (by omega) (by first | decide | omega) ?_
            rw [r0, ed]
            refine V.aaldS (j := d) (b := (og + 1 + d)) hG hF (by decide +kernel) k1 (by omega) (by first | decide | omega) (k2 d hd) ?_
            refine V.run hF [(.aload 9, 2, .null), (.iconst 1, 1, .int (nI 1))] (pc' := 187) (L' := [some (.ref (qo q)), some (.ref (A 0)), some (.int (nI (gT σ))), some (.int (gLn σ (t + 1))), some (.ref ha), some (.ref og), some (.int (nI t)), some (.ref ii), some (.int (nI l)), some (.ref (qrr q t l))]) (st' := [.int (nI 1), .ref (qrr q t l), .ref (og + 1 + d)]) (by decide +kernel) rfl ?_
            refine V.ialdN (j := 1) hG hF (by decide +kernel) er4 (by omega) (by first | decide | omega) ?_
            rw [r1, ec]
            refine V.run hF [(.dup2, 1, .null)] (pc' := 189) (L' := [some (.ref (qo q)), some (.ref (A 0)), some (.int (nI (gT σ))), some (.int (gLn σ (t + 1))), some (.ref ha), some (.ref og), some (.int (nI t)), some (.ref ii), some (.int (nI l)), some (.ref (qrr q t l))]) (st' := [.int (nI c), .ref (og + 1 + d), .int (nI c), .ref (og + 1 + d)]) (by decide +kernel) rfl ?_
            refine V.ialdN (j := c) hG hF (by decide +kernel) k4 (by omega) (by first | decide | omega) ?_
            refine V.run hF [(.aload 9, 2, .null), (.iconst 2, 1, .int (nI 2))] (pc' := 193) (L' := [some (.ref (qo q)), some (.ref (A 0)), some (.int (nI (gT σ))), some (.int (gLn σ (t + 1))), some (.ref ha), some (.ref og), some (.int (nI t)), some (.ref ii), some (.int (nI l)), some (.ref (qrr q t l))]) (st' := [.int (nI 2), .ref (qrr q t l), .int (fo c), .int (nI c), .ref (og + 1 + d)]) (by decide +kernel) rfl ?_
            refine V.ialdN (j := 2) hG hF (by decide +kernel) er4 (by omega) (by first | decide | omega) ?_
            rw [r2]
            refine V.run hF [(.iadd, 1, .null)] (pc' := 195) (L' := [some (.ref (qo q)), some (.ref (A 0)), some (.int (nI (gT σ))), some (.int (gLn σ (t + 1))), some (.ref ha), some (.ref og), some (.int (nI t)), some (.ref ii), some (.int (nI l)), some (.ref (qrr q t l))]) (st' := [.int (fo c + gM σ t l), .int (nI c), .ref (og + 1 + d)]) (by decide +kernel) rfl ?_
            refine V.iastN (j := c) hG hF (by decide +kernel) k4 (by omega) (by first | decide | omega) ?_
            obtain ⟨h_18, gh18⟩ : ∃ z : Hp, z = hset h4 (og + 1 + d) (.inl (0, 8, .inl (upd fo c (fo c + gM σ t l)))) := ⟨_, rfl⟩
            refine V.hp gh18 ?_
            have gk18 : ∀ zq : Nat, zq ≠ (og + 1 + d) → h_18 zq = h4 zq := fun zq hq => by rw [gh18]; exact hset_ne hq
            have gs18 : h_18 (og + 1 + d) = some (.inl (0, 8, .inl (upd fo c (fo c + gM σ t l)))) := by rw [gh18]; exact hset_eq
            have hS5 := gs18
            have ew5 : Exw (og + 1 + d) h4 h_18 := Exw.of (fun x hx => gk18 x hx)
            have nold : ∀ x cc, h x = some cc → x ≠ og + 1 + d := fun x cc hcc => ne_new (x1 _ _ hcc) (gqB d hd)
            have xh5 : Ex h h_18 := fun x cc hcc => ew5 _ _ (xh4 _ _ hcc) (nold _ _ hcc)
            have hC5 := hC.ex xh5
            have o5 := (o4.up hd hc k4 hS5 ew5).cg (fun a b ha hb => valp_s hd hc ed ec a b ha hb)
            have ca5 : ∃ f, h_18 ha = some (.inl (0, 8, .inl f)) ∧ ∀ x, x < 8 → f x = balT σ (nI x) (t + 1) := ⟨f4, ew5 _ _ ca1 (nha d hd), ca2⟩
            refine V.run hF [(.aload_n 1, 1, .null), (.iload 6, 2, .null), (.iload 8, 2, .null)] (pc' := 201) (L' := [some (.ref (qo q)), some (.ref (A 0)), some (.int (nI (gT σ))), some (.int (gLn σ (t + 1))), some (.ref ha), some (.ref og), some (.int (nI t)), some (.ref ii), some (.int (nI l)), some (.ref (qrr q t l))]) (st' := [.int (nI l), .int (nI t), .ref (A 0)]) (by decide +kernel) rfl ?_
            refine V.less (kc' := (350 + 200 * (7 - t) + 12 * (11 - l) + 9) + 3) (ks' := (1800 + 1000 * (7 - t) + 72 * (11 - l) + 54) + 18) (by omega) (by omega) ?_
            refine V.callV (As := [.int (nI t), .int (nI l)]) (st := []) hG hF k_RX4_61 (by decide +kernel) (hp_debtorOf hG hC5 hR d1 z1) (xh5 _ _ gA) rfl rfl ⟨by rw [hRm]; decide, by rw [hRm]; decide⟩ (Nat.le_of_ble_eq_true rfl) rfl (fun v h_19 gp19 => ?_) (fun E h9 hx => hx.elim)
            obtain ⟨rfl, he_gp19⟩ := gp19
            rw [he_gp19]
            show V G F _ _ _ 204 [some (.ref (qo q)), some (.ref (A 0)), some (.int (nI (gT σ))), some (.int (gLn σ (t + 1))), some (.ref ha), some (.ref og), some (.int (nI t)), some (.ref ii), some (.int (nI l)), some (.ref (qrr q t l))] [.int (gDD σ t l)] h_18
            refine V.run hF [(.aload 9, 2, .null), (.iconst 0, 1, .int (nI 0))] (pc' := 207) (L' := [some (.ref (qo q)), some (.ref (A 0)), some (.int (nI (gT σ))), some (.int (gLn σ (t + 1))), some (.ref ha), some (.ref og), some (.int (nI t)), some (.ref ii), some (.int (nI l)), some (.ref (qrr q t l))]) (st' := [.int (nI 0), .ref (qrr q t l), .int (gDD σ t l)]) (by decide +kernel) rfl ?_
            have gf20 : h_18 (qrr q t l) = some (.inl (0, 4, .inl fr)) := (gk18 (qrr q t l) (by first | assumption | exact Ne.symm (by assumption) | omega)).trans er4
            refine V.ialdN (j := 0) hG hF (by decide +kernel) gf20 (by omega) (by first | decide | omega) ?_
            rw [r0]
            refine V.icmp_ne hF (off := 53) (tgt := 261) (by decide +kernel) (by decide) (fun z2 => ?_) (fun z2 => ?_)
            · exact absurd rfl z2
            · skip
              refine V.run hF [(.aload_n 1, 1, .null), (.iload 6, 2, .null), (.iload 8, 2, .null)] (pc' := 216) (L' := [some (.ref (qo q)), some (.ref (A 0)), some (.int (nI (gT σ))), some (.int (gLn σ (t + 1))), some (.ref ha), some (.ref og), some (.int (nI t)), some (.ref ii), some (.int (nI l)), some (.ref (qrr q t l))]) (st' := [.int (nI l), .int (nI t), .ref (A 0)]) (by decide +kernel) rfl ?_
              refine V.less (kc' := (350 + 200 * (7 - t) + 12 * (11 - l) + 6) + 3) (ks' := (1800 + 1000 * (7 - t) + 72 * (11 - l) + 36) + 18) (by omega) (by omega) ?_
              refine V.callV (As := [.int (nI t), .int (nI l)]) (st := []) hG hF k_RX4_64 (by decide +kernel) (hp_creditorOf hG hC5 hR d1 z1) (xh5 _ _ gA) rfl rfl ⟨by rw [hRm]; decide, by rw [hRm]; decide⟩ (Nat.le_of_ble_eq_true rfl) rfl (fun v h_21 gp21 => ?_) (fun E h9 hx => hx.elim)
              obtain ⟨rfl, he_gp21⟩ := gp21
              rw [he_gp21]
              show V G F _ _ _ 219 [some (.ref (qo q)), some (.ref (A 0)), some (.int (nI (gT σ))), some (.int (gLn σ (t + 1))), some (.ref ha), some (.ref og), some (.int (nI t)), some (.ref ii), some (.int (nI l)), some (.ref (qrr q t l))] [.int (gC σ t l)] h_18
              refine V.run hF [(.aload 9, 2, .null), (.iconst 1, 1, .int (nI 1))] (pc' := 222) (L' := [some (.ref (qo q)), some (.ref (A 0)), some (.int (nI (gT σ))), some (.int (gLn σ (t + 1))), some (.ref ha), some (.ref og), some (.int (nI t)), some (.ref ii), some (.int (nI l)), some (.ref (qrr q t l))]) (st' := [.int (nI 1), .ref (qrr q t l), .int (gC σ t l)]) (by decide +kernel) rfl ?_
              refine V.ialdN (j := 1) hG hF (by decide +kernel) gf20 (by omega) (by first | decide | omega) ?_
              rw [r1]
              refine V.icmp_ne hF (off := 38) (tgt := 261) (by decide +kernel) (by decide) (fun z2 => ?_) (fun z2 => ?_)
              · exact absurd rfl z2
              · skip
                refine V.run hF [(.aload_n 1, 1, .null), (.iload 6, 2, .null), (.iload 8, 2, .null)] (pc' := 231) (L' := [some (.ref (qo q)), some (.ref (A 0)), some (.int (nI (gT σ))), some (.int (gLn σ (t + 1))), some (.ref ha), some (.ref og), some (.int (nI t)), some (.ref ii), some (.int (nI l)), some (.ref (qrr q t l))]) (st' := [.int (nI l), .int (nI t), .ref (A 0)]) (by decide +kernel) rfl ?_
                refine V.less (kc' := (350 + 200 * (7 - t) + 12 * (11 - l) + 3) + 3) (ks' := (1800 + 1000 * (7 - t) + 72 * (11 - l) + 18) + 18) (by omega) (by omega) ?_
                refine V.callV (As := [.int (nI t), .int (nI l)]) (st := []) hG hF k_RX4_67 (by decide +kernel) (hp_amountOf hG hC5 hR d1 z1) (xh5 _ _ gA) rfl rfl ⟨by rw [hRm]; decide, by rw [hRm]; decide⟩ (Nat.le_of_ble_eq_true rfl) rfl (fun v h_22 gp22 => ?_) (fun E h9 hx => hx.elim)
                obtain ⟨rfl, he_gp22⟩ := gp22
                rw [he_gp22]
                show V G F _ _ _ 234 [some (.ref (qo q)), some (.ref (A 0)), some (.int (nI (gT σ))), some (.int (gLn σ (t + 1))), some (.ref ha), some (.ref og), some (.int (nI t)), some (.ref ii), some (.int (nI l)), some (.ref (qrr q t l))] [.int (gM σ t l)] h_18
                refine V.run hF [(.aload 9, 2, .null), (.iconst 2, 1, .int (nI 2))] (pc' := 237) (L' := [some (.ref (qo q)), some (.ref (A 0)), some (.int (nI (gT σ))), some (.int (gLn σ (t + 1))), some (.ref ha), some (.ref og), some (.int (nI t)), some (.ref ii), some (.int (nI l)), some (.ref (qrr q t l))]) (st' := [.int (nI 2), .ref (qrr q t l), .int (gM σ t l)]) (by decide +kernel) rfl ?_
                refine V.ialdN (j := 2) hG hF (by decide +kernel) gf20 (by omega) (by first | decide | omega) ?_
                rw [r2]
                refine V.icmp_ne hF (off := 23) (tgt := 261) (by decide +kernel) (by decide) (fun z2 => ?_) (fun z2 => ?_)
                · exact absurd rfl z2
                · skip
                  refine V.run hF [(.aload_n 1, 1, .null), (.iload 6, 2, .null), (.iload 8, 2, .null)] (pc' := 246) (L' := [some (.ref (qo q)), some (.ref (A 0)), some (.int (nI (gT σ))), some (.int (gLn σ (t + 1))), some (.ref ha), some (.ref og), some (.int (nI t)), some (.ref ii), some (.int (nI l)), some (.ref (qrr q t l))]) (st' := [.int (nI l), .int (nI t), .ref (A 0)]) (by decide +kernel) rfl ?_
                  refine V.less (kc' := (350 + 200 * (7 - t) + 12 * (11 - l)) + 3) (ks' := (1800 + 1000 * (7 - t) + 72 * (11 - l)) + 18) (by omega) (by omega) ?_
                  refine V.callV (As := [.int (nI t), .int (nI l)]) (st := []) hG hF k_RX4_70 (by decide +kernel) (hp_isWitnessed hG hC5 hR d1 z1 hw8 ewt) (xh5 _ _ gA) rfl rfl ⟨by rw [hRm]; decide, by rw [hRm]; decide⟩ (Nat.le_of_ble_eq_true rfl) rfl (fun v h_23 gp23 => ?_) (fun E h9 hx => hx.elim)
                  obtain ⟨rfl, he_gp23⟩ := gp23
                  rw [he_gp23]
                  show V G F _ _ _ 249 [some (.ref (qo q)), some (.ref (A 0)), some (.int (nI (gT σ))), some (.int (gLn σ (t + 1))), some (.ref ha), some (.ref og), some (.int (nI t)), some (.ref ii), some (.int (nI l)), some (.ref (qrr q t l))] [.int (gth σ w)] h_18
                  refine V.run hF [(.aload_n 0, 1, .null)] (pc' := 250) (L' := [some (.ref (qo q)), some (.ref (A 0)), some (.int (nI (gT σ))), some (.int (gLn σ (t + 1))), some (.ref ha), some (.ref og), some (.int (nI t)), some (.ref ii), some (.int (nI l)), some (.ref (qrr q t l))]) (st' := [.ref (qo q), .int (gth σ w)]) (by decide +kernel) rfl ?_
                  refine V.getf hG hF k_RX4_7 (by decide +kernel) (xh5 _ _ s1) rfl ?_
                  refine V.run hF [(.aload 9, 2, .null), (.iconst 3, 1, .int (nI 3))] (pc' := 256) (L' := [some (.ref (qo q)), some (.ref (A 0)), some (.int (nI (gT σ))), some (.int (gLn σ (t + 1))), some (.ref ha), some (.ref og), some (.int (nI t)), some (.ref ii), some (.int (nI l)), some (.ref (qrr q t l))]) (st' := [.int (nI 3), .ref (qrr q t l), .ref (qth q), .int (gth σ w)]) (by decide +kernel) rfl ?_
                  refine V.ialdN (j := 3) hG hF (by decide +kernel) gf20 (by omega) (by first | decide | omega) ?_
                  rw [r3, ewt]
                  refine V.zaldN (j := w) hG hF (by decide +kernel) (xh5 _ _ s2) (by omega) (by first | decide | omega) ?_
                  refine V.icmp_eq hF (off := 5) (tgt := 263) (by decide +kernel) (by decide) (fun z2 => ?_) (fun z2 => ?_)
                  · skip
                    refine V.run hF [(.iinc 8 1, 3, .int 1), (.goto (-114), 3, .null)] (pc' := 152) (L' := [some (.ref (qo q)), some (.ref (A 0)), some (.int (nI (gT σ))), some (.int (gLn σ (t + 1))), some (.ref ha), some (.ref og), some (.int (nI t)), some (.ref ii), some (.int ((nI l) + 1)), some (.ref (qrr q t l))]) (st' := []) (by decide +kernel) rfl ?_
                    rw [nI_1 l]
                    refine V.less (kc' := 350 + 200 * (7 - t) + 12 * (12 - (l + 1))) (ks' := 1800 + 1000 * (7 - t) + 72 * (12 - (l + 1))) (by omega) (by omega) ?_
                    exact lh z1 _ _ xh5 ca5 o5
                  · skip
                    exact absurd rfl z2
        -- the sums of the persons, p of them done
        have sums : ∀ p, p ≤ 8 → ∀ (h4 : Hp) (f4 : Nat → Int32), Ex h h4 → h4 ha = some (.inl (0, 8, .inl f4)) → (∀ x, x < 8 → f4 x = if x < p then balT σ (nI x) (t + 1) else balT σ (nI x) t) → OG h4 og (fun a b => gOw σ (nI a) (nI b) t) → h4 ii = some (.inl (0, 8, .inl ff)) → V G F (fin G F sameP pxN) (350 + 200 * (7 - t) + 150 + 2 * (8 - p)) (1800 + 1000 * (7 - t) + 870 + 12 * (8 - p)) 105 [some (.ref (qo q)), some (.ref (A 0)), some (.int (nI (gT σ))), some (.int (gLn σ (t + 1))), some (.ref ha), some (.ref og), some (.int (nI t)), some (.ref ii), some (.int (nI p)), none] [] h4 := by
          refine lp_up 8 fun p hp ph h4 f4 xh4 ca1 ca2 o4 ci4 => ?_
          have hC4 := hC.ex xh4
          obtain ⟨⟨g9, k1g, -⟩, -⟩ := id o4
          refine V.run hF [(.iload 8, 2, .null), (.bipush 8, 2, .int (nI 8))] (pc' := 109) (L' := [some (.ref (qo q)), some (.ref (A 0)), some (.int (nI (gT σ))), some (.int (gLn σ (t + 1))), some (.ref ha), some (.ref og), some (.int (nI t)), some (.ref ii), some (.int (nI p)), none]) (st' := [.int (nI 8), .int (nI p)]) (by decide +kernel) rfl ?_
          refine V.icmpN_ge (i := p) (j := 8) hF (off := 40) (tgt := 149) (by decide +kernel) (by decide) (by omega) (by omega) (fun z1 => ?_) (fun z1 => ?_)
          · skip
            refine V.run hF [(.iconst 0, 1, .int (nI 0)), (.istore 8, 2, .null)] (pc' := 152) (L' := [some (.ref (qo q)), some (.ref (A 0)), some (.int (nI (gT σ))), some (.int (gLn σ (t + 1))), some (.ref ha), some (.ref og), some (.int (nI t)), some (.ref ii), some (.int (nI 0)), none]) (st' := []) (by decide +kernel) rfl ?_
            refine V.less (kc' := 350 + 200 * (7 - t) + 12 * (12 - 0)) (ks' := 1800 + 1000 * (7 - t) + 72 * (12 - 0)) (by omega) (by omega) ?_
            exact lines 0 (Nat.zero_le _) h4 _ xh4 ⟨f4, ca1, fun x hx => by rw [ca2 x hx, if_pos (by omega)]⟩ (o4.cg fun a b _ _ => valp_0 a b)
          · skip
            refine V.run hF [(.aload 4, 2, .null), (.iload 8, 2, .null), (.dup2, 1, .null)] (pc' := 117) (L' := [some (.ref (qo q)), some (.ref (A 0)), some (.int (nI (gT σ))), some (.int (gLn σ (t + 1))), some (.ref ha), some (.ref og), some (.int (nI t)), some (.ref ii), some (.int (nI p)), none]) (st' := [.int (nI p), .ref ha, .int (nI p), .ref ha]) (by decide +kernel) rfl ?_
            refine V.ialdN (j := p) hG hF (by decide +kernel) ca1 (by omega) (by first | decide | omega) ?_
            refine V.run hF [(.aload 7, 2, .null), (.iload 8, 2, .null)] (pc' := 122) (L' := [some (.ref (qo q)), some (.ref (A 0)), some (.int (nI (gT σ))), some (.int (gLn σ (t + 1))), some (.ref ha), some (.ref og), some (.int (nI t)), some (.ref ii), some (.int (nI p)), none]) (st' := [.int (nI p), .ref ii, .int (f4 p), .int (nI p), .ref ha]) (by decide +kernel) rfl ?_
            refine V.ialdN (j := p) hG hF (by decide +kernel) ci4 (by omega) (by first | decide | omega) ?_
            refine V.run hF [(.iadd, 1, .null)] (pc' := 124) (L' := [some (.ref (qo q)), some (.ref (A 0)), some (.int (nI (gT σ))), some (.int (gLn σ (t + 1))), some (.ref ha), some (.ref og), some (.int (nI t)), some (.ref ii), some (.int (nI p)), none]) (st' := [.int (f4 p + ff p), .int (nI p), .ref ha]) (by decide +kernel) rfl ?_
            refine V.iastN (j := p) hG hF (by decide +kernel) ca1 (by omega) (by first | decide | omega) ?_
            obtain ⟨h_24, gh24⟩ : ∃ z : Hp, z = hset h4 ha (.inl (0, 8, .inl (upd f4 p (f4 p + ff p)))) := ⟨_, rfl⟩
            refine V.hp gh24 ?_
            have gk24 : ∀ zq : Nat, zq ≠ ha → h_24 zq = h4 zq := fun zq hq => by rw [gh24]; exact hset_ne hq
            have gs24 : h_24 ha = some (.inl (0, 8, .inl (upd f4 p (f4 p + ff p)))) := by rw [gh24]; exact hset_eq
            have ew5 : Exw ha h4 h_24 := Exw.of (fun x hx => gk24 x hx)
            have xh5 : Ex h h_24 := fun x cc hcc => ew5 _ _ (xh4 _ _ hcc) (ne_new hcc hq_ha)
            have hC5 := hC.ex xh5
            have o5 := o4.exw ew5 (nek k1g ca1 nofun) (fun d hd => Ne.symm (nha d hd))
            have cS := gs24
            refine V.run hF [(.aload_n 1, 1, .null), (.iload 6, 2, .null), (.iload 8, 2, .null)] (pc' := 130) (L' := [some (.ref (qo q)), some (.ref (A 0)), some (.int (nI (gT σ))), some (.int (gLn σ (t + 1))), some (.ref ha), some (.ref og), some (.int (nI t)), some (.ref ii), some (.int (nI p)), none]) (st' := [.int (nI p), .int (nI t), .ref (A 0)]) (by decide +kernel) rfl ?_
            refine V.less (kc' := (350 + 200 * (7 - t) + 150 + 2 * (8 - (p + 1))) + 2) (ks' := (1800 + 1000 * (7 - t) + 870 + 12 * (8 - (p + 1))) + 12) (by omega) (by omega) ?_
            refine V.callV (As := [.int (nI t), .int (nI p)]) (st := []) hG hF k_RX4_57 (by decide +kernel) (hp_hasOn hG hC5 d1 z1) (xh5 _ _ gA) rfl rfl ⟨by rw [hRm]; decide, by rw [hRm]; decide⟩ (Nat.le_of_ble_eq_true rfl) rfl (fun v h_25 gp25 => ?_) (fun E h9 hx => hx.elim)
            obtain ⟨rfl, he_gp25⟩ := gp25
            rw [he_gp25]
            show V G F _ _ _ 133 [some (.ref (qo q)), some (.ref (A 0)), some (.int (nI (gT σ))), some (.int (gLn σ (t + 1))), some (.ref ha), some (.ref og), some (.int (nI t)), some (.ref ii), some (.int (nI p)), none] [.int (bal (gDD σ t) (gC σ t) (gM σ t) (nI p) (gn σ t))] h_24
            refine V.run hF [(.aload 7, 2, .null), (.iload 8, 2, .null)] (pc' := 137) (L' := [some (.ref (qo q)), some (.ref (A 0)), some (.int (nI (gT σ))), some (.int (gLn σ (t + 1))), some (.ref ha), some (.ref og), some (.int (nI t)), some (.ref ii), some (.int (nI p)), none]) (st' := [.int (nI p), .ref ii, .int (bal (gDD σ t) (gC σ t) (gM σ t) (nI p) (gn σ t))]) (by decide +kernel) rfl ?_
            have gf26 : h_24 ii = some (.inl (0, 8, .inl ff)) := (gk24 ii (by first | assumption | exact Ne.symm (by assumption) | omega)).trans ci4
            refine V.ialdN (j := p) hG hF (by decide +kernel) gf26 (by omega) (by first | decide | omega) ?_
            have ci5 := gf26
            rw [i3 p z1]
            refine V.icmp_eq hF (off := 5) (tgt := 143) (by decide +kernel) (by decide) (fun z2 => ?_) (fun z2 => ?_)
            · skip
              refine V.run hF [(.iinc 8 1, 3, .int 1), (.goto (-41), 3, .null)] (pc' := 105) (L' := [some (.ref (qo q)), some (.ref (A 0)), some (.int (nI (gT σ))), some (.int (gLn σ (t + 1))), some (.ref ha), some (.ref og), some (.int (nI t)), some (.ref ii), some (.int ((nI p) + 1)), none]) (st' := []) (by decide +kernel) rfl ?_
              rw [nI_1 p]
              refine ph z1 _ _ xh5 cS (fun x hx => ?_) o5 ci5
              by_cases y : x = p
              · rw [y, upd_s, if_pos (Nat.lt_succ_self p), ca2 p z1, if_neg (Nat.lt_irrefl p), i3 p z1]
                rfl
              · rw [upd_n y, ca2 x hx]
                by_cases y2 : x < p
                · rw [if_pos y2, if_pos (by omega)]
                · rw [if_neg y2, if_neg (by omega)]
            · skip
              exact absurd rfl z2
        have go : V G F (fin G F sameP pxN) (350 + 200 * (7 - t) + 195) (1800 + 1000 * (7 - t) + 968) 102 [some (.ref (qo q)), some (.ref (A 0)), some (.int (nI (gT σ))), some (.int (gLn σ t + nI (gn σ t))), some (.ref ha), some (.ref og), some (.int (nI t)), some (.ref ii), none, none] [] h3 := by
          refine V.run hF [(.iconst 0, 1, .int (nI 0)), (.istore 8, 2, .null)] (pc' := 105) (L' := [some (.ref (qo q)), some (.ref (A 0)), some (.int (nI (gT σ))), some (.int (gLn σ t + nI (gn σ t))), some (.ref ha), some (.ref og), some (.int (nI t)), some (.ref ii), some (.int (nI 0)), none]) (st' := []) (by decide +kernel) rfl ?_
          refine V.less (kc' := 350 + 200 * (7 - t) + 150 + 2 * (8 - 0)) (ks' := 1800 + 1000 * (7 - t) + 870 + 12 * (8 - 0)) (by omega) (by omega) ?_
          exact sums 0 (Nat.zero_le _) h3 fh xh3 (x3 _ _ c1) (fun x hx => by rw [c2 x hx, if_neg (Nat.not_lt_zero x)]) (o.ex x3) i2
        refine V.run hF [(.iconst 1, 1, .int 1)] (pc' := 89) (L' := [some (.ref (qo q)), some (.ref (A 0)), some (.int (nI (gT σ))), some (.int (gLn σ t + nI (gn σ t))), some (.ref ha), some (.ref og), some (.int (nI t)), some (.ref ii), none, none]) (st' := [.int 1, .int (gce σ t), .int (gce σ t)]) (by decide +kernel) rfl ?_
        refine V.icmp_ne hF (off := 7) (tgt := 96) (by decide +kernel) (by decide) (fun z3 => ?_) (fun z3 => ?_)
        · skip
          refine V.run hF [(.iconst 0, 1, .int 0)] (pc' := 97) (L' := [some (.ref (qo q)), some (.ref (A 0)), some (.int (nI (gT σ))), some (.int (gLn σ t + nI (gn σ t))), some (.ref ha), some (.ref og), some (.int (nI t)), some (.ref ii), none, none]) (st' := [.int 0, .int (gce σ t)]) (by decide +kernel) rfl ?_
          refine V.icmp_eq hF (off := 5) (tgt := 102) (by decide +kernel) (by decide) (fun z4 => ?_) (fun z4 => ?_)
          · exact go
          · skip
            have hz := (hR.2.1 t d1).resolve_right z3
            exact absurd hz z4
        · skip
          refine V.run hF [(.iconst 1, 1, .int 1), (.goto 4, 3, .null)] (pc' := 97) (L' := [some (.ref (qo q)), some (.ref (A 0)), some (.int (nI (gT σ))), some (.int (gLn σ t + nI (gn σ t))), some (.ref ha), some (.ref og), some (.int (nI t)), some (.ref ii), none, none]) (st' := [.int 1, .int (gce σ t)]) (by decide +kernel) rfl ?_
          refine V.icmp_eq hF (off := 5) (tgt := 102) (by decide +kernel) (by decide) (fun z4 => ?_) (fun z4 => ?_)
          · exact go
          · skip
            exact absurd z3 z4
  refine V.run hF [(.astore 5, 2, .null), (.iconst 0, 1, .int (nI 0)), (.istore 6, 2, .null)] (pc' := 27) (L' := [some (.ref (qo q)), some (.ref (A 0)), some (.int (nI (gT σ))), some (.int 0), some (.ref ha), some (.ref og), some (.int (nI 0)), none, none, none]) (st' := []) (by decide +kernel) rfl ?_
  refine V.less (kc' := 350 + 200 * (8 - 0)) (ks' := 1800 + 1000 * (8 - 0)) (by decide) (by decide) ?_
  exact tabs 0 (Nat.zero_le _) h2 _ _ _ _ x2 ch2 (fun x hx => rfl) (o2.cg fun a b _ _ => rfl)
end Sa
