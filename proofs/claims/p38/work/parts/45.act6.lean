/-! ===== act, cell, build ===== -/
section Ah
variable {G : Gt} {h : Hp}
theorem dsw : decode cL_act 143 = .ok (.tableswitch 499 1 9 #[49, 157, 157, 248, 298, 298, 342, 395, 453], 49) := by decide +kernel
set_option maxHeartbeats 8000000 in
theorem c_L_act (hG : GOk G) {a o : Nat} {S : Int} {Y : Nat} (hI : IV S Y a o h) (h0 : 0 ≤ S) (hSb : S ≤ 1000000) (hY : Y ≤ 100000) (x : Int32) : Ct G yL_act (.code yL_act cL_act 19 (some .boolean)) 9 160 400 400 [.ref a, .ref o, .int x] h (actP a o S Y) pxN := by
  refine Ct.of (by decide +kernel) (Nat.le_of_ble_eq_true rfl) fun F hF hT hN hRm => ?_
  obtain ⟨A, q, σ, P, r, rfl, rfl, hC, hS, hO, hR, hA, hgy⟩ := hI
  obtain ⟨s1, s2, s3, ⟨g1, s4, s5⟩, ⟨g2, s6, s7⟩, s8, s9⟩ := id hS
  obtain ⟨-, hT8, -⟩ := id hC
  have same0 : actP (A 0) (qo q) S Y (some (.int 1)) h := ⟨rfl, A, q, _, _, _, rfl, rfl, hC, hS, hO, hR, hA.up (by omega), Nat.le_trans hgy (Nat.le_add_right _ _)⟩
  refine V.run hF [(.aload_n 1, 1, .null)] (pc' := 1) (L' := [some (.ref (A 0)), some (.ref (qo q)), some (.int x), none, none, none, none, none, none, none, none, none, none, none, none, none, none, none, none]) (st' := [.ref (qo q)]) (by decide +kernel) rfl ?_
  refine V.getf hG hF k_RL_9 (by decide +kernel) s1 rfl ?_
  refine V.alen hG hF (by decide +kernel) (by decide) s4 ?_
  show V G F _ _ _ 5 [some (.ref (A 0)), some (.ref (qo q)), some (.int x), none, none, none, none, none, none, none, none, none, none, none, none, none, none, none, none] [.int (nI (gT σ))] h
  refine V.run hF [(.istore_n 3, 1, .null), (.iload_n 2, 1, .null), (.bipush 9, 2, .int (nI 9)), (.ishr, 1, .null), (.bipush 18, 2, .int (nI 18))] (pc' := 12) (L' := [some (.ref (A 0)), some (.ref (qo q)), some (.int x), some (.int (nI (gT σ))), none, none, none, none, none, none, none, none, none, none, none, none, none, none, none]) (st' := [.int (nI 18), .int (x >>> ((nI 9) &&& 31))]) (by decide +kernel) rfl ?_
  refine V.callS (As := [.int (x >>> ((nI 9) &&& 31)), .int (nI 18)]) (st := []) hG hF k_RL_15 (by decide +kernel) (c_L_below hG (x >>> ((nI 9) &&& 31)) (n := 18) (by omega) (by omega)) rfl ⟨by rw [hRm]; decide, by rw [hRm]; decide⟩ (Nat.le_of_ble_eq_true rfl) rfl (fun v h_1 gp1 => ?_) (fun E h9 hx => hx.elim)
  obtain ⟨rfl, he_gp1⟩ := gp1
  rw [he_gp1]
  show V G F _ _ _ 15 [some (.ref (A 0)), some (.ref (qo q)), some (.int x), some (.int (nI (gT σ))), none, none, none, none, none, none, none, none, none, none, none, none, none, none, none] [.int (nI (bl (x >>> ((nI 9) &&& 31)) 18))] h
  obtain ⟨k4, hk4⟩ : ∃ z : Nat, z = bl (x >>> ((nI 9) &&& 31)) 18 := ⟨_, rfl⟩
  rw [← hk4]
  have lt_k4 : k4 < 18 := by rw [hk4]; exact Nat.mod_lt _ (by omega)
  refine V.run hF [(.istore 4, 2, .null)] (pc' := 17) (L' := [some (.ref (A 0)), some (.ref (qo q)), some (.int x), some (.int (nI (gT σ))), some (.int (nI k4)), none, none, none, none, none, none, none, none, none, none, none, none, none, none]) (st' := []) (by decide +kernel) rfl ?_
  have add : V G F (fin G F (actP (A 0) (qo q) S Y) pxN) 400 400 26 [some (.ref (A 0)), some (.ref (qo q)), some (.int x), some (.int (nI (gT σ))), some (.int (nI k4)), none, none, none, none, none, none, none, none, none, none, none, none, none, none] [] h := by
    refine V.run hF [(.iload_n 3, 1, .null), (.bipush 8, 2, .int (nI 8))] (pc' := 29) (L' := [some (.ref (A 0)), some (.ref (qo q)), some (.int x), some (.int (nI (gT σ))), some (.int (nI k4)), none, none, none, none, none, none, none, none, none, none, none, none, none, none]) (st' := [.int (nI 8), .int (nI (gT σ))]) (by decide +kernel) rfl ?_
    refine V.icmpN_ne (i := gT σ) (j := 8) hF (off := 5) (tgt := 34) (by decide +kernel) (by decide) (by omega) (by omega) (fun c1 => ?_) (fun c1 => ?_)
    · exact ac_add hG hF hRm hC hS hO hR hA hgy h0 (by omega)
    · skip
      refine V.run hF [(.iconst 1, 1, .int 1)] (pc' := 33) (L' := [some (.ref (A 0)), some (.ref (qo q)), some (.int x), some (.int (nI (gT σ))), some (.int (nI k4)), none, none, none, none, none, none, none, none, none, none, none, none, none, none]) (st' := [.int 1]) (by decide +kernel) rfl ?_
      exact V.retz hF (by decide +kernel) rfl same0
  refine V.run hF [(.iload_n 3, 1, .null)] (pc' := 18) (L' := [some (.ref (A 0)), some (.ref (qo q)), some (.int x), some (.int (nI (gT σ))), some (.int (nI k4)), none, none, none, none, none, none, none, none, none, none, none, none, none, none]) (st' := [.int (nI (gT σ))]) (by decide +kernel) rfl ?_
  refine V.if_eq hF (off := 8) (tgt := 26) (by decide +kernel) (by decide) (fun c1 => ?_) (fun c1 => ?_)
  · exact add
  · skip
    have hT0 : 0 < gT σ := Nat.pos_of_ne_zero fun z => c1 (by rw [z]; rfl)
    refine V.run hF [(.iload 4, 2, .null)] (pc' := 23) (L' := [some (.ref (A 0)), some (.ref (qo q)), some (.int x), some (.int (nI (gT σ))), some (.int (nI k4)), none, none, none, none, none, none, none, none, none, none, none, none, none, none]) (st' := [.int (nI k4)]) (by decide +kernel) rfl ?_
    refine V.if_ne hF (off := 66) (tgt := 89) (by decide +kernel) (by decide) (fun c2 => ?_) (fun c2 => ?_)
    · have hk0 : k4 ≠ 0 := fun z => c2 (by rw [z]; rfl)
      refine V.run hF [(.iload_n 2, 1, .null), (.iconst 1, 1, .int 1), (.ishr, 1, .null), (.iload_n 3, 1, .null)] (pc' := 93) (L' := [some (.ref (A 0)), some (.ref (qo q)), some (.int x), some (.int (nI (gT σ))), some (.int (nI k4)), none, none, none, none, none, none, none, none, none, none, none, none, none, none]) (st' := [.int (nI (gT σ)), .int (x >>> (1 &&& 31))]) (by decide +kernel) rfl ?_
      refine V.callS (As := [.int (x >>> (1 &&& 31)), .int (nI (gT σ))]) (st := []) hG hF k_RL_15 (by decide +kernel) (c_L_below hG (x >>> (1 &&& 31)) (n := gT σ) (by omega) (by omega)) rfl ⟨by rw [hRm]; decide, by rw [hRm]; decide⟩ (Nat.le_of_ble_eq_true rfl) rfl (fun v h_2 gp2 => ?_) (fun E h9 hx => hx.elim)
      obtain ⟨rfl, he_gp2⟩ := gp2
      rw [he_gp2]
      show V G F _ _ _ 96 [some (.ref (A 0)), some (.ref (qo q)), some (.int x), some (.int (nI (gT σ))), some (.int (nI k4)), none, none, none, none, none, none, none, none, none, none, none, none, none, none] [.int (nI (bl (x >>> (1 &&& 31)) (gT σ)))] h
      obtain ⟨t, ht⟩ : ∃ z : Nat, z = bl (x >>> (1 &&& 31)) (gT σ) := ⟨_, rfl⟩
      rw [← ht]
      have lt_t : t < gT σ := by rw [ht]; exact Nat.mod_lt _ (by omega)
      have t8 : t < 8 := by omega
      obtain ⟨e7, ⟨⟨g3, w1, w2⟩, w3⟩⟩ := s7 t t8
      rw [gm_in lt_t] at w1 w2 w3
      have h12 := hR.2.2.2 t lt_t
      refine V.run hF [(.istore 5, 2, .null), (.aload_n 1, 1, .null)] (pc' := 99) (L' := [some (.ref (A 0)), some (.ref (qo q)), some (.int x), some (.int (nI (gT σ))), some (.int (nI k4)), some (.int (nI t)), none, none, none, none, none, none, none, none, none, none, none, none, none]) (st' := [.ref (qo q)]) (by decide +kernel) rfl ?_
      refine V.getf hG hF k_RL_31 (by decide +kernel) s1 rfl ?_
      refine V.run hF [(.iload 5, 2, .null)] (pc' := 104) (L' := [some (.ref (A 0)), some (.ref (qo q)), some (.int x), some (.int (nI (gT σ))), some (.int (nI k4)), some (.int (nI t)), none, none, none, none, none, none, none, none, none, none, none, none, none]) (st' := [.int (nI t), .ref (qli q)]) (by decide +kernel) rfl ?_
      refine V.aaldS (j := t) (b := (qla q t)) hG hF (by decide +kernel) s6 (by omega) (by first | decide | omega) e7 ?_
      have go : ∀ l p, (gn σ t = 0 ∨ l < gn σ t) → p < 8 → V G F (fin G F (actP (A 0) (qo q) S Y) pxN) 400 400 141 [some (.ref (A 0)), some (.ref (qo q)), some (.int x), some (.int (nI (gT σ))), some (.int (nI k4)), some (.int (nI t)), some (.ref (qla q t)), some (.int (nI (gn σ t))), some (.int (nI l)), some (.int (nI p)), none, none, none, none, none, none, none, none, none] [] h := by
        intro l p hl hp
        refine V.run hF [(.iload 4, 2, .null)] (pc' := 143) (L' := [some (.ref (A 0)), some (.ref (qo q)), some (.int x), some (.int (nI (gT σ))), some (.int (nI k4)), some (.int (nI t)), some (.ref (qla q t)), some (.int (nI (gn σ t))), some (.int (nI l)), some (.int (nI p)), none, none, none, none, none, none, none, none, none]) (st' := [.int (nI k4)]) (by decide +kernel) rfl ?_
        have kT : (nI k4).toInt = (k4 : Int) := nI_toInt (by omega)
        by_cases z : k4 < 10
        · have : k4 = 1 ∨ k4 = 2 ∨ k4 = 3 ∨ k4 = 4 ∨ k4 = 5 ∨ k4 = 6 ∨ k4 = 7 ∨ k4 = 8 ∨ k4 = 9 := by omega
          rcases this with e | e | e | e | e | e | e | e | e
          · exact V.tabIn hF (off := 49) (tgt := 192) dsw (by rw [kT]; omega) (by rw [kT]; omega) (by rw [kT, e]; rfl) (by decide) (ac_pay hG hF hRm hC hS hO hR hA hgy h0 lt_t hl)
          · exact V.tabIn hF (off := 157) (tgt := 300) dsw (by rw [kT]; omega) (by rw [kT]; omega) (by rw [kT, e]; rfl) (by decide) (ac_deny hG hF hRm hC hS hO hR hA hgy h0 lt_t hl)
          · exact V.tabIn hF (off := 157) (tgt := 300) dsw (by rw [kT]; omega) (by rw [kT]; omega) (by rw [kT, e]; rfl) (by decide) (ac_deny hG hF hRm hC hS hO hR hA hgy h0 lt_t hl)
          · exact V.tabIn hF (off := 248) (tgt := 391) dsw (by rw [kT]; omega) (by rw [kT]; omega) (by rw [kT, e]; rfl) (by decide) (ac_smooth hG hF hRm hC hS hO hR hA hgy h0 hSb lt_t)
          · exact V.tabIn hF (off := 298) (tgt := 441) dsw (by rw [kT]; omega) (by rw [kT]; omega) (by rw [kT, e]; rfl) (by decide) (ac_turn hG hF hRm hC hS hO hR hA hgy hp)
          · exact V.tabIn hF (off := 298) (tgt := 441) dsw (by rw [kT]; omega) (by rw [kT]; omega) (by rw [kT, e]; rfl) (by decide) (ac_turn hG hF hRm hC hS hO hR hA hgy hp)
          · exact V.tabIn hF (off := 342) (tgt := 485) dsw (by rw [kT]; omega) (by rw [kT]; omega) (by rw [kT, e]; rfl) (by decide) (ac_carry hG hF hRm hC hS hO hR hA hgy lt_t)
          · exact V.tabIn hF (off := 395) (tgt := 538) dsw (by rw [kT]; omega) (by rw [kT]; omega) (by rw [kT, e]; rfl) (by decide) (ac_heat hG hF hRm hC hS hO hR hA hgy)
          · exact V.tabIn hF (off := 453) (tgt := 596) dsw (by rw [kT]; omega) (by rw [kT]; omega) (by rw [kT, e]; rfl) (by decide) (ac_pass hG hF hRm hC hS hO hR hA hgy h0 hY)
        · exact V.tabOut hF (tgt := 642) dsw (by rw [kT]; omega) (by decide) (ac_write hG hF hRm hC hS hO hR hA hgy h0 lt_t hp)
      refine V.run hF [(.astore 6, 2, .null), (.aload 6, 2, .null)] (pc' := 109) (L' := [some (.ref (A 0)), some (.ref (qo q)), some (.int x), some (.int (nI (gT σ))), some (.int (nI k4)), some (.int (nI t)), some (.ref (qla q t)), none, none, none, none, none, none, none, none, none, none, none, none]) (st' := [.ref (qla q t)]) (by decide +kernel) rfl ?_
      refine V.alen hG hF (by decide +kernel) (by decide) w1 ?_
      show V G F _ _ _ 110 [some (.ref (A 0)), some (.ref (qo q)), some (.int x), some (.int (nI (gT σ))), some (.int (nI k4)), some (.int (nI t)), some (.ref (qla q t)), none, none, none, none, none, none, none, none, none, none, none, none] [.int (nI (gn σ t))] h
      refine V.run hF [(.istore 7, 2, .null), (.iload 7, 2, .null)] (pc' := 114) (L' := [some (.ref (A 0)), some (.ref (qo q)), some (.int x), some (.int (nI (gT σ))), some (.int (nI k4)), some (.int (nI t)), some (.ref (qla q t)), some (.int (nI (gn σ t))), none, none, none, none, none, none, none, none, none, none, none]) (st' := [.int (nI (gn σ t))]) (by decide +kernel) rfl ?_
      refine V.if_ne hF (off := 7) (tgt := 121) (by decide +kernel) (by decide) (fun c3 => ?_) (fun c3 => ?_)
      · have hn0 : ¬ gn σ t = 0 := fun z => c3 (by rw [z]; rfl)
        refine V.run hF [(.iload_n 2, 1, .null), (.iconst 3, 1, .int 3), (.ishr, 1, .null), (.iload 7, 2, .null)] (pc' := 126) (L' := [some (.ref (A 0)), some (.ref (qo q)), some (.int x), some (.int (nI (gT σ))), some (.int (nI k4)), some (.int (nI t)), some (.ref (qla q t)), some (.int (nI (gn σ t))), none, none, none, none, none, none, none, none, none, none, none]) (st' := [.int (nI (gn σ t)), .int (x >>> (3 &&& 31))]) (by decide +kernel) rfl ?_
        refine V.callS (As := [.int (x >>> (3 &&& 31)), .int (nI (gn σ t))]) (st := []) hG hF k_RL_15 (by decide +kernel) (c_L_below hG (x >>> (3 &&& 31)) (n := gn σ t) (by omega) (by omega)) rfl ⟨by rw [hRm]; decide, by rw [hRm]; decide⟩ (Nat.le_of_ble_eq_true rfl) rfl (fun v h_3 gp3 => ?_) (fun E h9 hx => hx.elim)
        obtain ⟨rfl, he_gp3⟩ := gp3
        rw [he_gp3]
        show V G F _ _ _ 129 [some (.ref (A 0)), some (.ref (qo q)), some (.int x), some (.int (nI (gT σ))), some (.int (nI k4)), some (.int (nI t)), some (.ref (qla q t)), some (.int (nI (gn σ t))), none, none, none, none, none, none, none, none, none, none, none] [.int (nI (bl (x >>> (3 &&& 31)) (gn σ t)))] h
        obtain ⟨l, hl⟩ : ∃ z : Nat, z = bl (x >>> (3 &&& 31)) (gn σ t) := ⟨_, rfl⟩
        rw [← hl]
        have lt_l : l < gn σ t := by rw [hl]; exact Nat.mod_lt _ (by omega)
        refine V.run hF [(.istore 8, 2, .null), (.iload_n 2, 1, .null), (.iconst 2, 1, .int 2), (.ishr, 1, .null), (.bipush 8, 2, .int (nI 8))] (pc' := 136) (L' := [some (.ref (A 0)), some (.ref (qo q)), some (.int x), some (.int (nI (gT σ))), some (.int (nI k4)), some (.int (nI t)), some (.ref (qla q t)), some (.int (nI (gn σ t))), some (.int (nI l)), none, none, none, none, none, none, none, none, none, none]) (st' := [.int (nI 8), .int (x >>> (2 &&& 31))]) (by decide +kernel) rfl ?_
        refine V.callS (As := [.int (x >>> (2 &&& 31)), .int (nI 8)]) (st := []) hG hF k_RL_15 (by decide +kernel) (c_L_below hG (x >>> (2 &&& 31)) (n := 8) (by omega) (by omega)) rfl ⟨by rw [hRm]; decide, by rw [hRm]; decide⟩ (Nat.le_of_ble_eq_true rfl) rfl (fun v h_4 gp4 => ?_) (fun E h9 hx => hx.elim)
        obtain ⟨rfl, he_gp4⟩ := gp4
        rw [he_gp4]
        show V G F _ _ _ 139 [some (.ref (A 0)), some (.ref (qo q)), some (.int x), some (.int (nI (gT σ))), some (.int (nI k4)), some (.int (nI t)), some (.ref (qla q t)), some (.int (nI (gn σ t))), some (.int (nI l)), none, none, none, none, none, none, none, none, none, none] [.int (nI (bl (x >>> (2 &&& 31)) 8))] h
        obtain ⟨p, hp⟩ : ∃ z : Nat, z = bl (x >>> (2 &&& 31)) 8 := ⟨_, rfl⟩
        rw [← hp]
        have lt_p : p < 8 := by rw [hp]; exact Nat.mod_lt _ (by omega)
        refine V.run hF [(.istore 9, 2, .null)] (pc' := 141) (L' := [some (.ref (A 0)), some (.ref (qo q)), some (.int x), some (.int (nI (gT σ))), some (.int (nI k4)), some (.int (nI t)), some (.ref (qla q t)), some (.int (nI (gn σ t))), some (.int (nI l)), some (.int (nI p)), none, none, none, none, none, none, none, none, none]) (st' := []) (by decide +kernel) rfl ?_
        exact go l p (Or.inr lt_l) lt_p
      · skip
        have hn0 : gn σ t = 0 := Classical.byContradiction fun z => nI_ne0 (Nat.pos_of_ne_zero z) (show gn σ t < 2 ^ 31 by omega) c3
        refine V.run hF [(.iconst 0, 1, .int (nI 0)), (.goto 11, 3, .null), (.istore 8, 2, .null), (.iload_n 2, 1, .null), (.iconst 2, 1, .int 2), (.ishr, 1, .null), (.bipush 8, 2, .int (nI 8))] (pc' := 136) (L' := [some (.ref (A 0)), some (.ref (qo q)), some (.int x), some (.int (nI (gT σ))), some (.int (nI k4)), some (.int (nI t)), some (.ref (qla q t)), some (.int (nI (gn σ t))), some (.int (nI 0)), none, none, none, none, none, none, none, none, none, none]) (st' := [.int (nI 8), .int (x >>> (2 &&& 31))]) (by decide +kernel) rfl ?_
        refine V.callS (As := [.int (x >>> (2 &&& 31)), .int (nI 8)]) (st := []) hG hF k_RL_15 (by decide +kernel) (c_L_below hG (x >>> (2 &&& 31)) (n := 8) (by omega) (by omega)) rfl ⟨by rw [hRm]; decide, by rw [hRm]; decide⟩ (Nat.le_of_ble_eq_true rfl) rfl (fun v h_5 gp5 => ?_) (fun E h9 hx => hx.elim)
        obtain ⟨rfl, he_gp5⟩ := gp5
        rw [he_gp5]
        show V G F _ _ _ 139 [some (.ref (A 0)), some (.ref (qo q)), some (.int x), some (.int (nI (gT σ))), some (.int (nI k4)), some (.int (nI t)), some (.ref (qla q t)), some (.int (nI (gn σ t))), some (.int (nI 0)), none, none, none, none, none, none, none, none, none, none] [.int (nI (bl (x >>> (2 &&& 31)) 8))] h
        obtain ⟨p, hp⟩ : ∃ z : Nat, z = bl (x >>> (2 &&& 31)) 8 := ⟨_, rfl⟩
        rw [← hp]
        have lt_p : p < 8 := by rw [hp]; exact Nat.mod_lt _ (by omega)
        refine V.run hF [(.istore 9, 2, .null)] (pc' := 141) (L' := [some (.ref (A 0)), some (.ref (qo q)), some (.int x), some (.int (nI (gT σ))), some (.int (nI k4)), some (.int (nI t)), some (.ref (qla q t)), some (.int (nI (gn σ t))), some (.int (nI 0)), some (.int (nI p)), none, none, none, none, none, none, none, none, none]) (st' := []) (by decide +kernel) rfl ?_
        exact go 0 p (Or.inl hn0) lt_p
    · skip
      exact add
end Ah
