/-! ===== the law's round: the tablets and their lines ===== -/
section Lw
variable {G : Gt} {F : Ft} {Q : State → Prop} {A : Nat → Nat} {q : QA} {σ : Sg} {S : Int} {og mny sb i : Nat} {x4 : Int32}
set_option maxHeartbeats 8000000 in
/-- the lines of tablet t -/
theorem law_lines (hG : GOk G) (hF : Ok G F RL cL_law 23 (some .boolean)) (hRm : fR F = room_1) (hO : SO A q) (hR : RI σ) (hA : Am σ S) (hS6 : S ≤ 1000000) (h0 : 0 ≤ S) (hy : gy σ ≤ 100000) (h8 : gT σ ≤ 8) (hP : LPl A q σ og mny) {K1 K2 t : Nat} (ht : t < gT σ) {fm : Nat → Int32} (hfm : ∀ x, x < t + 1 → fm x = nI (gn σ x))
    (kend : ∀ (hh : Hp) (L13 L14 L15 L16 L17 L18 L19 L20 L21 L22 : Option Value), LW A q σ og mny hh (fun a b => gOw σ (nI a) (nI b) (t + 1)) fm → V G F Q K1 K2 420 [some (.ref sb), some (.ref (A 0)), some (.ref (qo q)), some (.int (nI i)), some (.int x4), some (.int (nI (gT σ))), some (.int (gLn σ t + nI (gn σ t))), some (.int (gTo σ (t + 1))), some (.int (unT σ (t + 1))), some (.ref og), some (.ref mny), some (.int (anyT σ (t + 1))), some (.int (nI t)), L13, L14, L15, L16, L17, L18, L19, L20, L21, L22] [] hh) :
    ∀ l, l ≤ gn σ t → ∀ (hh : Hp) (L13 L14 L15 L16 L18 L19 L20 L21 L22 : Option Value), LW A q σ og mny hh (valp σ t l) fm → V G F Q (K1 + 12 * (12 - l)) (K2 + 72 * (12 - l)) 290 [some (.ref sb), some (.ref (A 0)), some (.ref (qo q)), some (.int (nI i)), some (.int x4), some (.int (nI (gT σ))), some (.int (gLn σ t + nI (gn σ t))), some (.int (gTo σ t + sm (gM σ t) l)), some (.int (unT σ t + unl σ t l)), some (.ref og), some (.ref mny), some (.int (if l = 0 then anyT σ t else 1)), some (.int (nI t)), L13, L14, L15, L16, some (.int (nI l)), L18, L19, L20, L21, L22] [] hh := by
  have h12 := hR.2.2.2 t ht
  refine lp_up (gn σ t) fun l hl lh hh L13 L14 L15 L16 L18 L19 L20 L21 L22 hL => ?_
  obtain ⟨⟨P, r, hC, hSm⟩, l2, l3⟩ := id hL
  obtain ⟨p1, p2, p3, p4, p5⟩ := id hP
  have gA := hC.2.2.1
  refine V.loc (L' := [some (.ref sb), some (.ref (A 0)), some (.ref (qo q)), some (.int (nI i)), some (.int x4), some (.int (nI (gT σ))), some (.int (gLn σ t + nI (gn σ t))), some (.int (gTo σ t + sm (gM σ t) l)), some (.int (unT σ t + unl σ t l)), some (.ref og), some (.ref mny), some (.int (if l = 0 then anyT σ t else 1)), some (.int (nI t)), none, none, none, none, some (.int (nI l)), none, none, none, none, none]) (fun j v hv => by
    match j, hv with
    | 0, hv => exact hv
    | 1, hv => exact hv
    | 2, hv => exact hv
    | 3, hv => exact hv
    | 4, hv => exact hv
    | 5, hv => exact hv
    | 6, hv => exact hv
    | 7, hv => exact hv
    | 8, hv => exact hv
    | 9, hv => exact hv
    | 10, hv => exact hv
    | 11, hv => exact hv
    | 12, hv => exact hv
    | 13, hv => cases hv
    | 14, hv => cases hv
    | 15, hv => cases hv
    | 16, hv => cases hv
    | 17, hv => exact hv
    | 18, hv => cases hv
    | 19, hv => cases hv
    | 20, hv => cases hv
    | 21, hv => cases hv
    | 22, hv => cases hv
    | zz + 23, hv => cases hv) ?_
  refine V.run hF [(.iload 17, 2, .null), (.aload 10, 2, .null), (.iload 12, 2, .null)] (pc' := 296) (L' := [some (.ref sb), some (.ref (A 0)), some (.ref (qo q)), some (.int (nI i)), some (.int x4), some (.int (nI (gT σ))), some (.int (gLn σ t + nI (gn σ t))), some (.int (gTo σ t + sm (gM σ t) l)), some (.int (unT σ t + unl σ t l)), some (.ref og), some (.ref mny), some (.int (if l = 0 then anyT σ t else 1)), some (.int (nI t)), none, none, none, none, some (.int (nI l)), none, none, none, none, none]) (st' := [.int (nI t), .ref mny, .int (nI l)]) (by decide +kernel) rfl ?_
  refine V.ialdN (j := t) hG hF (by decide +kernel) l3 (by omega) (by first | decide | omega) ?_
  rw [hfm t (Nat.lt_succ_self t)]
  refine V.icmpN_ge (i := l) (j := gn σ t) hF (off := 123) (tgt := 420) (by decide +kernel) (by decide) (by omega) (by omega) (fun z1 => ?_) (fun z1 => ?_)
  · have el : l = gn σ t := by omega
    rw [el] at hL ⊢
    have e11 : (if gn σ t = 0 then anyT σ t else 1) = anyT σ (t + 1) := rfl
    rw [e11]
    exact V.less (by omega) (by omega) (kend _ _ _ _ _ _ _ _ _ _ _ hL)
  · skip
    obtain ⟨q1, q2, q3, q4⟩ := hR.2.2.1 t l ht z1
    obtain ⟨d, hd, ed⟩ := inP_of q1
    obtain ⟨c, hc, ec⟩ := inP_of q2
    obtain ⟨w, hw8, ewt⟩ := inP_of q3
    obtain ⟨m, em, m1, m31⟩ := hA.nat ht z1
    have hdc : ¬ d = c := fun e => q4 (by rw [ed, ec, e])
    refine V.run hF [(.aload_n 1, 1, .null), (.iload 12, 2, .null), (.iload 17, 2, .null)] (pc' := 305) (L' := [some (.ref sb), some (.ref (A 0)), some (.ref (qo q)), some (.int (nI i)), some (.int x4), some (.int (nI (gT σ))), some (.int (gLn σ t + nI (gn σ t))), some (.int (gTo σ t + sm (gM σ t) l)), some (.int (unT σ t + unl σ t l)), some (.ref og), some (.ref mny), some (.int (if l = 0 then anyT σ t else 1)), some (.int (nI t)), none, none, none, none, some (.int (nI l)), none, none, none, none, none]) (st' := [.int (nI l), .int (nI t), .ref (A 0)]) (by decide +kernel) rfl ?_
    refine V.less (kc' := (K1 + 12 * (11 - l) + 9) + 3) (ks' := (K2 + 72 * (11 - l) + 54) + 18) (by omega) (by omega) ?_
    refine V.callV (As := [.int (nI t), .int (nI l)]) (st := []) hG hF k_RL_120 (by decide +kernel) (hp_debtorOf hG hC hR ht z1) gA rfl rfl ⟨by rw [hRm]; decide, by rw [hRm]; decide⟩ (Nat.le_of_ble_eq_true rfl) rfl (fun v h_1 gp1 => ?_) (fun E h9 hx => hx.elim)
    obtain ⟨rfl, he_gp1⟩ := gp1
    rw [he_gp1]
    show V G F _ _ _ 308 [some (.ref sb), some (.ref (A 0)), some (.ref (qo q)), some (.int (nI i)), some (.int x4), some (.int (nI (gT σ))), some (.int (gLn σ t + nI (gn σ t))), some (.int (gTo σ t + sm (gM σ t) l)), some (.int (unT σ t + unl σ t l)), some (.ref og), some (.ref mny), some (.int (if l = 0 then anyT σ t else 1)), some (.int (nI t)), none, none, none, none, some (.int (nI l)), none, none, none, none, none] [.int (gDD σ t l)] hh
    rw [ed]
    refine V.run hF [(.istore 18, 2, .null), (.aload_n 1, 1, .null), (.iload 12, 2, .null), (.iload 17, 2, .null)] (pc' := 315) (L' := [some (.ref sb), some (.ref (A 0)), some (.ref (qo q)), some (.int (nI i)), some (.int x4), some (.int (nI (gT σ))), some (.int (gLn σ t + nI (gn σ t))), some (.int (gTo σ t + sm (gM σ t) l)), some (.int (unT σ t + unl σ t l)), some (.ref og), some (.ref mny), some (.int (if l = 0 then anyT σ t else 1)), some (.int (nI t)), none, none, none, none, some (.int (nI l)), some (.int (nI d)), none, none, none, none]) (st' := [.int (nI l), .int (nI t), .ref (A 0)]) (by decide +kernel) rfl ?_
    refine V.less (kc' := (K1 + 12 * (11 - l) + 6) + 3) (ks' := (K2 + 72 * (11 - l) + 36) + 18) (by omega) (by omega) ?_
    refine V.callV (As := [.int (nI t), .int (nI l)]) (st := []) hG hF k_RL_123 (by decide +kernel) (hp_creditorOf hG hC hR ht z1) gA rfl rfl ⟨by rw [hRm]; decide, by rw [hRm]; decide⟩ (Nat.le_of_ble_eq_true rfl) rfl (fun v h_2 gp2 => ?_) (fun E h9 hx => hx.elim)
    obtain ⟨rfl, he_gp2⟩ := gp2
    rw [he_gp2]
    show V G F _ _ _ 318 [some (.ref sb), some (.ref (A 0)), some (.ref (qo q)), some (.int (nI i)), some (.int x4), some (.int (nI (gT σ))), some (.int (gLn σ t + nI (gn σ t))), some (.int (gTo σ t + sm (gM σ t) l)), some (.int (unT σ t + unl σ t l)), some (.ref og), some (.ref mny), some (.int (if l = 0 then anyT σ t else 1)), some (.int (nI t)), none, none, none, none, some (.int (nI l)), some (.int (nI d)), none, none, none, none] [.int (gC σ t l)] hh
    rw [ec]
    refine V.run hF [(.istore 19, 2, .null), (.aload_n 1, 1, .null), (.iload 12, 2, .null), (.iload 17, 2, .null)] (pc' := 325) (L' := [some (.ref sb), some (.ref (A 0)), some (.ref (qo q)), some (.int (nI i)), some (.int x4), some (.int (nI (gT σ))), some (.int (gLn σ t + nI (gn σ t))), some (.int (gTo σ t + sm (gM σ t) l)), some (.int (unT σ t + unl σ t l)), some (.ref og), some (.ref mny), some (.int (if l = 0 then anyT σ t else 1)), some (.int (nI t)), none, none, none, none, some (.int (nI l)), some (.int (nI d)), some (.int (nI c)), none, none, none]) (st' := [.int (nI l), .int (nI t), .ref (A 0)]) (by decide +kernel) rfl ?_
    refine V.less (kc' := (K1 + 12 * (11 - l) + 3) + 3) (ks' := (K2 + 72 * (11 - l) + 18) + 18) (by omega) (by omega) ?_
    refine V.callV (As := [.int (nI t), .int (nI l)]) (st := []) hG hF k_RL_126 (by decide +kernel) (hp_amountOf hG hC hR ht z1) gA rfl rfl ⟨by rw [hRm]; decide, by rw [hRm]; decide⟩ (Nat.le_of_ble_eq_true rfl) rfl (fun v h_3 gp3 => ?_) (fun E h9 hx => hx.elim)
    obtain ⟨rfl, he_gp3⟩ := gp3
    rw [he_gp3]
    show V G F _ _ _ 328 [some (.ref sb), some (.ref (A 0)), some (.ref (qo q)), some (.int (nI i)), some (.int x4), some (.int (nI (gT σ))), some (.int (gLn σ t + nI (gn σ t))), some (.int (gTo σ t + sm (gM σ t) l)), some (.int (unT σ t + unl σ t l)), some (.ref og), some (.ref mny), some (.int (if l = 0 then anyT σ t else 1)), some (.int (nI t)), none, none, none, none, some (.int (nI l)), some (.int (nI d)), some (.int (nI c)), none, none, none] [.int (gM σ t l)] hh
    rw [em]
    refine V.run hF [(.istore 20, 2, .null), (.iload 18, 2, .null)] (pc' := 332) (L' := [some (.ref sb), some (.ref (A 0)), some (.ref (qo q)), some (.int (nI i)), some (.int x4), some (.int (nI (gT σ))), some (.int (gLn σ t + nI (gn σ t))), some (.int (gTo σ t + sm (gM σ t) l)), some (.int (unT σ t + unl σ t l)), some (.ref og), some (.ref mny), some (.int (if l = 0 then anyT σ t else 1)), some (.int (nI t)), none, none, none, none, some (.int (nI l)), some (.int (nI d)), some (.int (nI c)), some (.int (nI m)), none, none]) (st' := [.int (nI d)]) (by decide +kernel) rfl ?_
    refine V.if_lt hF (off := 35) (tgt := 367) (by decide +kernel) (by decide) (fun z2 => ?_) (fun z2 => ?_)
    · exact absurd z2 (nI_pos (by omega))
    · skip
      refine V.run hF [(.iload 18, 2, .null), (.bipush 7, 2, .int (nI 7))] (pc' := 339) (L' := [some (.ref sb), some (.ref (A 0)), some (.ref (qo q)), some (.int (nI i)), some (.int x4), some (.int (nI (gT σ))), some (.int (gLn σ t + nI (gn σ t))), some (.int (gTo σ t + sm (gM σ t) l)), some (.int (unT σ t + unl σ t l)), some (.ref og), some (.ref mny), some (.int (if l = 0 then anyT σ t else 1)), some (.int (nI t)), none, none, none, none, some (.int (nI l)), some (.int (nI d)), some (.int (nI c)), some (.int (nI m)), none, none]) (st' := [.int (nI 7), .int (nI d)]) (by decide +kernel) rfl ?_
      refine V.icmpN_gt (i := d) (j := 7) hF (off := 28) (tgt := 367) (by decide +kernel) (by decide) (by omega) (by omega) (fun z3 => ?_) (fun z3 => ?_)
      · exact absurd z3 (by omega)
      · skip
        refine V.run hF [(.iload 19, 2, .null)] (pc' := 344) (L' := [some (.ref sb), some (.ref (A 0)), some (.ref (qo q)), some (.int (nI i)), some (.int x4), some (.int (nI (gT σ))), some (.int (gLn σ t + nI (gn σ t))), some (.int (gTo σ t + sm (gM σ t) l)), some (.int (unT σ t + unl σ t l)), some (.ref og), some (.ref mny), some (.int (if l = 0 then anyT σ t else 1)), some (.int (nI t)), none, none, none, none, some (.int (nI l)), some (.int (nI d)), some (.int (nI c)), some (.int (nI m)), none, none]) (st' := [.int (nI c)]) (by decide +kernel) rfl ?_
        refine V.if_lt hF (off := 23) (tgt := 367) (by decide +kernel) (by decide) (fun z4 => ?_) (fun z4 => ?_)
        · exact absurd z4 (nI_pos (by omega))
        · skip
          refine V.run hF [(.iload 19, 2, .null), (.bipush 7, 2, .int (nI 7))] (pc' := 351) (L' := [some (.ref sb), some (.ref (A 0)), some (.ref (qo q)), some (.int (nI i)), some (.int x4), some (.int (nI (gT σ))), some (.int (gLn σ t + nI (gn σ t))), some (.int (gTo σ t + sm (gM σ t) l)), some (.int (unT σ t + unl σ t l)), some (.ref og), some (.ref mny), some (.int (if l = 0 then anyT σ t else 1)), some (.int (nI t)), none, none, none, none, some (.int (nI l)), some (.int (nI d)), some (.int (nI c)), some (.int (nI m)), none, none]) (st' := [.int (nI 7), .int (nI c)]) (by decide +kernel) rfl ?_
          refine V.icmpN_gt (i := c) (j := 7) hF (off := 16) (tgt := 367) (by decide +kernel) (by decide) (by omega) (by omega) (fun z5 => ?_) (fun z5 => ?_)
          · exact absurd z5 (by omega)
          · skip
            refine V.run hF [(.iload 18, 2, .null), (.iload 19, 2, .null)] (pc' := 358) (L' := [some (.ref sb), some (.ref (A 0)), some (.ref (qo q)), some (.int (nI i)), some (.int x4), some (.int (nI (gT σ))), some (.int (gLn σ t + nI (gn σ t))), some (.int (gTo σ t + sm (gM σ t) l)), some (.int (unT σ t + unl σ t l)), some (.ref og), some (.ref mny), some (.int (if l = 0 then anyT σ t else 1)), some (.int (nI t)), none, none, none, none, some (.int (nI l)), some (.int (nI d)), some (.int (nI c)), some (.int (nI m)), none, none]) (st' := [.int (nI c), .int (nI d)]) (by decide +kernel) rfl ?_
            refine V.icmpN_eq (i := d) (j := c) hF (off := 9) (tgt := 367) (by decide +kernel) (by decide) (by omega) (by omega) (fun z6 => ?_) (fun z6 => ?_)
            · exact absurd z6 hdc
            · skip
              refine V.run hF [(.iload 20, 2, .null), (.iconst 1, 1, .int (nI 1))] (pc' := 364) (L' := [some (.ref sb), some (.ref (A 0)), some (.ref (qo q)), some (.int (nI i)), some (.int x4), some (.int (nI (gT σ))), some (.int (gLn σ t + nI (gn σ t))), some (.int (gTo σ t + sm (gM σ t) l)), some (.int (unT σ t + unl σ t l)), some (.ref og), some (.ref mny), some (.int (if l = 0 then anyT σ t else 1)), some (.int (nI t)), none, none, none, none, some (.int (nI l)), some (.int (nI d)), some (.int (nI c)), some (.int (nI m)), none, none]) (st' := [.int (nI 1), .int (nI m)]) (by decide +kernel) rfl ?_
              refine V.icmpN_ge (i := m) (j := 1) hF (off := 5) (tgt := 369) (by decide +kernel) (by decide) (by omega) (by omega) (fun z7 => ?_) (fun z7 => ?_)
              · obtain ⟨⟨g4, k1, k2⟩, k3⟩ := id l2
                obtain ⟨fo, k4, k5⟩ := k3 d hd
                refine V.run hF [(.aload 9, 2, .null), (.iload 18, 2, .null)] (pc' := 373) (L' := [some (.ref sb), some (.ref (A 0)), some (.ref (qo q)), some (.int (nI i)), some (.int x4), some (.int (nI (gT σ))), some (.int (gLn σ t + nI (gn σ t))), some (.int (gTo σ t + sm (gM σ t) l)), some (.int (unT σ t + unl σ t l)), some (.ref og), some (.ref mny), some (.int (if l = 0 then anyT σ t else 1)), some (.int (nI t)), none, none, none, none, some (.int (nI l)), some (.int (nI d)), some (.int (nI c)), some (.int (nI m)), none, none]) (st' := [.int (nI d), .ref og]) (by decide +kernel) rfl ?_
                refine V.aaldS (j := d) (b := (og + 1 + d)) hG hF (by decide +kernel) k1 (by omega) (by first | decide | omega) (k2 d hd) ?_
                refine V.run hF [(.iload 19, 2, .null), (.dup2, 1, .null)] (pc' := 377) (L' := [some (.ref sb), some (.ref (A 0)), some (.ref (qo q)), some (.int (nI i)), some (.int x4), some (.int (nI (gT σ))), some (.int (gLn σ t + nI (gn σ t))), some (.int (gTo σ t + sm (gM σ t) l)), some (.int (unT σ t + unl σ t l)), some (.ref og), some (.ref mny), some (.int (if l = 0 then anyT σ t else 1)), some (.int (nI t)), none, none, none, none, some (.int (nI l)), some (.int (nI d)), some (.int (nI c)), some (.int (nI m)), none, none]) (st' := [.int (nI c), .ref (og + 1 + d), .int (nI c), .ref (og + 1 + d)]) (by decide +kernel) rfl ?_
                refine V.ialdN (j := c) hG hF (by decide +kernel) k4 (by omega) (by first | decide | omega) ?_
                refine V.run hF [(.iload 20, 2, .null), (.iadd, 1, .null)] (pc' := 381) (L' := [some (.ref sb), some (.ref (A 0)), some (.ref (qo q)), some (.int (nI i)), some (.int x4), some (.int (nI (gT σ))), some (.int (gLn σ t + nI (gn σ t))), some (.int (gTo σ t + sm (gM σ t) l)), some (.int (unT σ t + unl σ t l)), some (.ref og), some (.ref mny), some (.int (if l = 0 then anyT σ t else 1)), some (.int (nI t)), none, none, none, none, some (.int (nI l)), some (.int (nI d)), some (.int (nI c)), some (.int (nI m)), none, none]) (st' := [.int (fo c + nI m), .int (nI c), .ref (og + 1 + d)]) (by decide +kernel) rfl ?_
                refine V.iastN (j := c) hG hF (by decide +kernel) k4 (by omega) (by first | decide | omega) ?_
                obtain ⟨h_4, gh4⟩ : ∃ z : Hp, z = hset hh (og + 1 + d) (.inl (0, 8, .inl (upd fo c (fo c + nI m)))) := ⟨_, rfl⟩
                refine V.hp gh4 ?_
                have gk4 : ∀ zq : Nat, zq ≠ (og + 1 + d) → h_4 zq = hh zq := fun zq hq => by rw [gh4]; exact hset_ne hq
                have gs4 : h_4 (og + 1 + d) = some (.inl (0, 8, .inl (upd fo c (fo c + nI m)))) := by rw [gh4]; exact hset_eq
                have hL5 := (hL.up (m := nI m) hP hd hc k4 gs4 (Exw.of (fun x hx => gk4 x hx))).cg (val' := valp σ t (l + 1)) (fun a b ha hb => by rw [← em]; exact valp_s hd hc ed ec a b ha hb)
                obtain ⟨⟨P5, r5, hC5, hSm5⟩, -, -⟩ := id hL5
                have gA5 := hC5.2.2.1
                refine V.run hF [(.iload 7, 2, .null), (.iload 20, 2, .null), (.iadd, 1, .null), (.istore 7, 2, .null), (.iload 8, 2, .null), (.aload_n 1, 1, .null), (.iload 12, 2, .null), (.iload 17, 2, .null)] (pc' := 396) (L' := [some (.ref sb), some (.ref (A 0)), some (.ref (qo q)), some (.int (nI i)), some (.int x4), some (.int (nI (gT σ))), some (.int (gLn σ t + nI (gn σ t))), some (.int ((gTo σ t + sm (gM σ t) l) + nI m)), some (.int (unT σ t + unl σ t l)), some (.ref og), some (.ref mny), some (.int (if l = 0 then anyT σ t else 1)), some (.int (nI t)), none, none, none, none, some (.int (nI l)), some (.int (nI d)), some (.int (nI c)), some (.int (nI m)), none, none]) (st' := [.int (nI l), .int (nI t), .ref (A 0), .int (unT σ t + unl σ t l)]) (by decide +kernel) rfl ?_
                refine V.less (kc' := (K1 + 12 * (11 - l)) + 3) (ks' := (K2 + 72 * (11 - l)) + 18) (by omega) (by omega) ?_
                refine V.callV (As := [.int (nI t), .int (nI l)]) (st := [.int (unT σ t + unl σ t l)]) hG hF k_RL_129 (by decide +kernel) (hp_isWitnessed hG hC5 hR ht z1 hw8 ewt) gA5 rfl rfl ⟨by rw [hRm]; decide, by rw [hRm]; decide⟩ (Nat.le_of_ble_eq_true rfl) rfl (fun v h_5 gp5 => ?_) (fun E h9 hx => hx.elim)
                obtain ⟨rfl, he_gp5⟩ := gp5
                rw [he_gp5]
                show V G F _ _ _ 399 [some (.ref sb), some (.ref (A 0)), some (.ref (qo q)), some (.int (nI i)), some (.int x4), some (.int (nI (gT σ))), some (.int (gLn σ t + nI (gn σ t))), some (.int ((gTo σ t + sm (gM σ t) l) + nI m)), some (.int (unT σ t + unl σ t l)), some (.ref og), some (.ref mny), some (.int (if l = 0 then anyT σ t else 1)), some (.int (nI t)), none, none, none, none, some (.int (nI l)), some (.int (nI d)), some (.int (nI c)), some (.int (nI m)), none, none] [.int (gth σ w), .int (unT σ t + unl σ t l)] h_4
                have eL : gTo σ t + sm (gM σ t) (l + 1) = gTo σ t + sm (gM σ t) l + nI m := by
                  rw [← em]
                  exact (Int32.add_assoc _ _ _).symm
                have eU : unT σ t + unl σ t (l + 1) = unT σ t + unl σ t l + (if gth σ w = 0 then nI m else 0) := by
                  rw [← em]
                  show unT σ t + (unl σ t l + (if gth σ (gW σ t l).toNatClampNeg = 0 then gM σ t l else 0)) = _
                  rw [ewt, nI_clamp (by omega)]
                  exact (Int32.add_assoc _ _ _).symm
                have go2 := fun (L13 L14 L15 L16 L18 L19 L20 L21 L22 : Option Value) => lh z1 h_4 L13 L14 L15 L16 L18 L19 L20 L21 L22 hL5
                simp only [eL, eU, if_neg (Nat.succ_ne_zero l)] at go2
                refine V.if_eq hF (off := 7) (tgt := 406) (by decide +kernel) (by decide) (fun z8 => ?_) (fun z8 => ?_)
                · skip
                  refine V.run hF [(.iload 20, 2, .null), (.iadd, 1, .null), (.istore 8, 2, .null), (.iconst 1, 1, .int 1), (.istore 11, 2, .null), (.iinc 17 1, 3, .int 1), (.goto (-127), 3, .null)] (pc' := 290) (L' := [some (.ref sb), some (.ref (A 0)), some (.ref (qo q)), some (.int (nI i)), some (.int x4), some (.int (nI (gT σ))), some (.int (gLn σ t + nI (gn σ t))), some (.int ((gTo σ t + sm (gM σ t) l) + nI m)), some (.int ((unT σ t + unl σ t l) + nI m)), some (.ref og), some (.ref mny), some (.int 1), some (.int (nI t)), none, none, none, none, some (.int ((nI l) + 1)), some (.int (nI d)), some (.int (nI c)), some (.int (nI m)), none, none]) (st' := []) (by decide +kernel) rfl ?_
                  rw [nI_1 l]
                  simp only [if_pos z8] at go2
                  exact V.less (by omega) (by omega) (go2 _ _ _ _ _ _ _ _ _)
                · skip
                  refine V.run hF [(.iconst 0, 1, .int 0), (.goto 5, 3, .null), (.iadd, 1, .null), (.istore 8, 2, .null), (.iconst 1, 1, .int 1), (.istore 11, 2, .null), (.iinc 17 1, 3, .int 1), (.goto (-127), 3, .null)] (pc' := 290) (L' := [some (.ref sb), some (.ref (A 0)), some (.ref (qo q)), some (.int (nI i)), some (.int x4), some (.int (nI (gT σ))), some (.int (gLn σ t + nI (gn σ t))), some (.int ((gTo σ t + sm (gM σ t) l) + nI m)), some (.int ((unT σ t + unl σ t l) + 0)), some (.ref og), some (.ref mny), some (.int 1), some (.int (nI t)), none, none, none, none, some (.int ((nI l) + 1)), some (.int (nI d)), some (.int (nI c)), some (.int (nI m)), none, none]) (st' := []) (by decide +kernel) rfl ?_
                  rw [nI_1 l]
                  simp only [if_neg z8] at go2
                  exact V.less (by omega) (by omega) (go2 _ _ _ _ _ _ _ _ _)
              · skip
                exact absurd z7 (by omega)
end Lw
