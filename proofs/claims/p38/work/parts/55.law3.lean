/-! ===== the law's round: the persons ===== -/
abbrev itf (σ : Sg) (p : Nat) : Nat → Int32 := fun o => gOw σ (nI o) (nI p) (gT σ) - gOw σ (nI p) (nI o) (gT σ)
theorem dct_s {σ : Sg} {p o : Nat} : dct σ p (o + 1) = dct σ p o + (if gOw σ (nI p) (nI o) (gT σ) = 0 then 0 else 1) := by
  show dct σ p o + (if dif σ p o = true then 1 else 0) = _
  by_cases z : gOw σ (nI p) (nI o) (gT σ) = 0
  · rw [if_pos z, if_neg (by unfold dif; rw [decide_eq_true_eq]; exact fun y => y z)]
  · rw [if_neg z, if_pos (by unfold dif; rw [decide_eq_true_eq]; exact z)]
section Ly
variable {G : Gt} {F : Ft} {Q : State → Prop} {A : Nat → Nat} {q : QA} {σ : Sg} {S : Int} {og mny sb i : Nat} {x4 : Int32}
set_option maxHeartbeats 8000000 in
/-- whom p owes -/
theorem law_owes (hG : GOk G) (hF : Ok G F RL cL_law 23 (some .boolean)) (hRm : fR F = room_1) (hO : SO A q) (hR : RI σ) (hA : Am σ S) (hS6 : S ≤ 1000000) (h0 : 0 ≤ S) (hy : gy σ ≤ 100000) (h8 : gT σ ≤ 8) (hP : LPl A q σ og mny) {K1 K2 p : Nat} (hp : p < 8) {fm : Nat → Int32}
    (kend : ∀ (hh : Hp) (L20 L21 L22 : Option Value), LW A q σ og mny hh (fun a b => gOw σ (nI a) (nI b) (gT σ)) fm → V G F Q K1 K2 550 [some (.ref sb), some (.ref (A 0)), some (.ref (qo q)), some (.int (nI i)), some (.int x4), some (.int (nI (gT σ))), some (.int (gLn σ (gT σ))), some (.int (gTo σ (gT σ))), some (.int (unT σ (gT σ))), some (.ref og), some (.ref mny), some (.int (anyT σ (gT σ))), some (.int (sumT (hb σ) p)), some (.int (sumT (atR σ) p)), some (.int (rdT σ p)), some (.int (nI p)), some (.int (sumT (itf σ p) 8)), some (.int (nI (aln σ p))), some (.int (nI (dct σ p 8))), some (.int (nI 8)), L20, L21, L22] [] hh) :
    ∀ o, o ≤ 8 → ∀ (hh : Hp) (L20 L21 L22 : Option Value), LW A q σ og mny hh (fun a b => gOw σ (nI a) (nI b) (gT σ)) fm → V G F Q (K1 + 3 * (8 - o)) (K2 + 18 * (8 - o)) 462 [some (.ref sb), some (.ref (A 0)), some (.ref (qo q)), some (.int (nI i)), some (.int x4), some (.int (nI (gT σ))), some (.int (gLn σ (gT σ))), some (.int (gTo σ (gT σ))), some (.int (unT σ (gT σ))), some (.ref og), some (.ref mny), some (.int (anyT σ (gT σ))), some (.int (sumT (hb σ) p)), some (.int (sumT (atR σ) p)), some (.int (rdT σ p)), some (.int (nI p)), some (.int (sumT (itf σ p) o)), some (.int (nI (aln σ p))), some (.int (nI (dct σ p o))), some (.int (nI o)), L20, L21, L22] [] hh := by
  refine lp_up 8 fun o ho oh hh L20 L21 L22 hL => ?_
  obtain ⟨⟨P, r, hC, hSm⟩, l2, l3⟩ := id hL
  have gA := hC.2.2.1
  have a7 : aln σ p ≤ 7 := aln_7 hp
  refine V.loc (L' := [some (.ref sb), some (.ref (A 0)), some (.ref (qo q)), some (.int (nI i)), some (.int x4), some (.int (nI (gT σ))), some (.int (gLn σ (gT σ))), some (.int (gTo σ (gT σ))), some (.int (unT σ (gT σ))), some (.ref og), some (.ref mny), some (.int (anyT σ (gT σ))), some (.int (sumT (hb σ) p)), some (.int (sumT (atR σ) p)), some (.int (rdT σ p)), some (.int (nI p)), some (.int (sumT (itf σ p) o)), some (.int (nI (aln σ p))), some (.int (nI (dct σ p o))), some (.int (nI o)), none, none, none]) (fun j v hv => by
    match j, hv with
    | 0, hv => exact hv
    | 1, hv => exact hv
    | 2, hv => exact hv
    | 3, hv => exact hv
    | 4, hv => exact hv
    | 5, hv => exact hv
    | 6, hv => exact hv
    | 7, hv => exact hv
    | 8, hv => exact hv
    | 9, hv => exact hv
    | 10, hv => exact hv
    | 11, hv => exact hv
    | 12, hv => exact hv
    | 13, hv => exact hv
    | 14, hv => exact hv
    | 15, hv => exact hv
    | 16, hv => exact hv
    | 17, hv => exact hv
    | 18, hv => exact hv
    | 19, hv => exact hv
    | 20, hv => cases hv
    | 21, hv => cases hv
    | 22, hv => cases hv
    | zz + 23, hv => cases hv) ?_
  refine V.run hF [(.iload 19, 2, .null), (.bipush 8, 2, .int (nI 8))] (pc' := 466) (L' := [some (.ref sb), some (.ref (A 0)), some (.ref (qo q)), some (.int (nI i)), some (.int x4), some (.int (nI (gT σ))), some (.int (gLn σ (gT σ))), some (.int (gTo σ (gT σ))), some (.int (unT σ (gT σ))), some (.ref og), some (.ref mny), some (.int (anyT σ (gT σ))), some (.int (sumT (hb σ) p)), some (.int (sumT (atR σ) p)), some (.int (rdT σ p)), some (.int (nI p)), some (.int (sumT (itf σ p) o)), some (.int (nI (aln σ p))), some (.int (nI (dct σ p o))), some (.int (nI o)), none, none, none]) (st' := [.int (nI 8), .int (nI o)]) (by decide +kernel) rfl ?_
  refine V.icmpN_ge (i := o) (j := 8) hF (off := 84) (tgt := 550) (by decide +kernel) (by decide) (by omega) (by omega) (fun z1 => ?_) (fun z1 => ?_)
  · have e8 : o = 8 := by omega
    rw [e8]
    exact V.less (by omega) (by omega) (kend _ _ _ _ hL)
  · skip
    obtain ⟨⟨g4, k1, k2⟩, k3⟩ := id l2
    obtain ⟨fp, p4, p5⟩ := k3 p hp
    obtain ⟨fo, o4, o5⟩ := k3 o z1
    have d8 : dct σ p o ≤ o := cb_le o
    have ds := dct_s (σ := σ) (p := p) (o := o)
    refine V.run hF [(.aload_n 1, 1, .null), (.iload 15, 2, .null), (.iload 19, 2, .null)] (pc' := 474) (L' := [some (.ref sb), some (.ref (A 0)), some (.ref (qo q)), some (.int (nI i)), some (.int x4), some (.int (nI (gT σ))), some (.int (gLn σ (gT σ))), some (.int (gTo σ (gT σ))), some (.int (unT σ (gT σ))), some (.ref og), some (.ref mny), some (.int (anyT σ (gT σ))), some (.int (sumT (hb σ) p)), some (.int (sumT (atR σ) p)), some (.int (rdT σ p)), some (.int (nI p)), some (.int (sumT (itf σ p) o)), some (.int (nI (aln σ p))), some (.int (nI (dct σ p o))), some (.int (nI o)), none, none, none]) (st' := [.int (nI o), .int (nI p), .ref (A 0)]) (by decide +kernel) rfl ?_
    refine V.less (kc' := (K1 + 3 * (7 - o) + 1) + 2) (ks' := (K2 + 18 * (7 - o) + 6) + 12) (by omega) (by omega) ?_
    refine V.callV (As := [.int (nI p), .int (nI o)]) (st := []) hG hF k_RL_136 (by decide +kernel) (hp_owes hG hC hp z1) gA rfl rfl ⟨by rw [hRm]; decide, by rw [hRm]; decide⟩ (Nat.le_of_ble_eq_true rfl) rfl (fun v h_1 gp1 => ?_) (fun E h9 hx => hx.elim)
    obtain ⟨rfl, he_gp1⟩ := gp1
    rw [he_gp1]
    show V G F _ _ _ 477 [some (.ref sb), some (.ref (A 0)), some (.ref (qo q)), some (.int (nI i)), some (.int x4), some (.int (nI (gT σ))), some (.int (gLn σ (gT σ))), some (.int (gTo σ (gT σ))), some (.int (unT σ (gT σ))), some (.ref og), some (.ref mny), some (.int (anyT σ (gT σ))), some (.int (sumT (hb σ) p)), some (.int (sumT (atR σ) p)), some (.int (rdT σ p)), some (.int (nI p)), some (.int (sumT (itf σ p) o)), some (.int (nI (aln σ p))), some (.int (nI (dct σ p o))), some (.int (nI o)), none, none, none] [.int (gOw σ (nI p) (nI o) (gT σ))] hh
    refine V.run hF [(.aload 9, 2, .null), (.iload 15, 2, .null)] (pc' := 481) (L' := [some (.ref sb), some (.ref (A 0)), some (.ref (qo q)), some (.int (nI i)), some (.int x4), some (.int (nI (gT σ))), some (.int (gLn σ (gT σ))), some (.int (gTo σ (gT σ))), some (.int (unT σ (gT σ))), some (.ref og), some (.ref mny), some (.int (anyT σ (gT σ))), some (.int (sumT (hb σ) p)), some (.int (sumT (atR σ) p)), some (.int (rdT σ p)), some (.int (nI p)), some (.int (sumT (itf σ p) o)), some (.int (nI (aln σ p))), some (.int (nI (dct σ p o))), some (.int (nI o)), none, none, none]) (st' := [.int (nI p), .ref og, .int (gOw σ (nI p) (nI o) (gT σ))]) (by decide +kernel) rfl ?_
    refine V.aaldS (j := p) (b := (og + 1 + p)) hG hF (by decide +kernel) k1 (by omega) (by first | decide | omega) (k2 p hp) ?_
    refine V.run hF [(.iload 19, 2, .null)] (pc' := 484) (L' := [some (.ref sb), some (.ref (A 0)), some (.ref (qo q)), some (.int (nI i)), some (.int x4), some (.int (nI (gT σ))), some (.int (gLn σ (gT σ))), some (.int (gTo σ (gT σ))), some (.int (unT σ (gT σ))), some (.ref og), some (.ref mny), some (.int (anyT σ (gT σ))), some (.int (sumT (hb σ) p)), some (.int (sumT (atR σ) p)), some (.int (rdT σ p)), some (.int (nI p)), some (.int (sumT (itf σ p) o)), some (.int (nI (aln σ p))), some (.int (nI (dct σ p o))), some (.int (nI o)), none, none, none]) (st' := [.int (nI o), .ref (og + 1 + p), .int (gOw σ (nI p) (nI o) (gT σ))]) (by decide +kernel) rfl ?_
    refine V.ialdN (j := o) hG hF (by decide +kernel) p4 (by omega) (by first | decide | omega) ?_
    rw [p5 o z1]
    refine V.icmp_eq hF (off := 5) (tgt := 490) (by decide +kernel) (by decide) (fun z2 => ?_) (fun z2 => ?_)
    · skip
      refine V.run hF [(.iload 16, 2, .null), (.aload 9, 2, .null), (.iload 19, 2, .null)] (pc' := 496) (L' := [some (.ref sb), some (.ref (A 0)), some (.ref (qo q)), some (.int (nI i)), some (.int x4), some (.int (nI (gT σ))), some (.int (gLn σ (gT σ))), some (.int (gTo σ (gT σ))), some (.int (unT σ (gT σ))), some (.ref og), some (.ref mny), some (.int (anyT σ (gT σ))), some (.int (sumT (hb σ) p)), some (.int (sumT (atR σ) p)), some (.int (rdT σ p)), some (.int (nI p)), some (.int (sumT (itf σ p) o)), some (.int (nI (aln σ p))), some (.int (nI (dct σ p o))), some (.int (nI o)), none, none, none]) (st' := [.int (nI o), .ref og, .int (sumT (itf σ p) o)]) (by decide +kernel) rfl ?_
      refine V.aaldS (j := o) (b := (og + 1 + o)) hG hF (by decide +kernel) k1 (by omega) (by first | decide | omega) (k2 o z1) ?_
      refine V.run hF [(.iload 15, 2, .null)] (pc' := 499) (L' := [some (.ref sb), some (.ref (A 0)), some (.ref (qo q)), some (.int (nI i)), some (.int x4), some (.int (nI (gT σ))), some (.int (gLn σ (gT σ))), some (.int (gTo σ (gT σ))), some (.int (unT σ (gT σ))), some (.ref og), some (.ref mny), some (.int (anyT σ (gT σ))), some (.int (sumT (hb σ) p)), some (.int (sumT (atR σ) p)), some (.int (rdT σ p)), some (.int (nI p)), some (.int (sumT (itf σ p) o)), some (.int (nI (aln σ p))), some (.int (nI (dct σ p o))), some (.int (nI o)), none, none, none]) (st' := [.int (nI p), .ref (og + 1 + o), .int (sumT (itf σ p) o)]) (by decide +kernel) rfl ?_
      refine V.ialdN (j := p) hG hF (by decide +kernel) o4 (by omega) (by first | decide | omega) ?_
      rw [o5 p hp]
      refine V.run hF [(.aload 9, 2, .null), (.iload 15, 2, .null)] (pc' := 504) (L' := [some (.ref sb), some (.ref (A 0)), some (.ref (qo q)), some (.int (nI i)), some (.int x4), some (.int (nI (gT σ))), some (.int (gLn σ (gT σ))), some (.int (gTo σ (gT σ))), some (.int (unT σ (gT σ))), some (.ref og), some (.ref mny), some (.int (anyT σ (gT σ))), some (.int (sumT (hb σ) p)), some (.int (sumT (atR σ) p)), some (.int (rdT σ p)), some (.int (nI p)), some (.int (sumT (itf σ p) o)), some (.int (nI (aln σ p))), some (.int (nI (dct σ p o))), some (.int (nI o)), none, none, none]) (st' := [.int (nI p), .ref og, .int (gOw σ (nI o) (nI p) (gT σ)), .int (sumT (itf σ p) o)]) (by decide +kernel) rfl ?_
      refine V.aaldS (j := p) (b := (og + 1 + p)) hG hF (by decide +kernel) k1 (by omega) (by first | decide | omega) (k2 p hp) ?_
      refine V.run hF [(.iload 19, 2, .null)] (pc' := 507) (L' := [some (.ref sb), some (.ref (A 0)), some (.ref (qo q)), some (.int (nI i)), some (.int x4), some (.int (nI (gT σ))), some (.int (gLn σ (gT σ))), some (.int (gTo σ (gT σ))), some (.int (unT σ (gT σ))), some (.ref og), some (.ref mny), some (.int (anyT σ (gT σ))), some (.int (sumT (hb σ) p)), some (.int (sumT (atR σ) p)), some (.int (rdT σ p)), some (.int (nI p)), some (.int (sumT (itf σ p) o)), some (.int (nI (aln σ p))), some (.int (nI (dct σ p o))), some (.int (nI o)), none, none, none]) (st' := [.int (nI o), .ref (og + 1 + p), .int (gOw σ (nI o) (nI p) (gT σ)), .int (sumT (itf σ p) o)]) (by decide +kernel) rfl ?_
      refine V.ialdN (j := o) hG hF (by decide +kernel) p4 (by omega) (by first | decide | omega) ?_
      rw [p5 o z1]
      refine V.run hF [(.isub, 1, .null), (.iadd, 1, .null), (.istore 16, 2, .null), (.aload 9, 2, .null), (.iload 15, 2, .null)] (pc' := 516) (L' := [some (.ref sb), some (.ref (A 0)), some (.ref (qo q)), some (.int (nI i)), some (.int x4), some (.int (nI (gT σ))), some (.int (gLn σ (gT σ))), some (.int (gTo σ (gT σ))), some (.int (unT σ (gT σ))), some (.ref og), some (.ref mny), some (.int (anyT σ (gT σ))), some (.int (sumT (hb σ) p)), some (.int (sumT (atR σ) p)), some (.int (rdT σ p)), some (.int (nI p)), some (.int (sumT (itf σ p) o + (gOw σ (nI o) (nI p) (gT σ) - gOw σ (nI p) (nI o) (gT σ)))), some (.int (nI (aln σ p))), some (.int (nI (dct σ p o))), some (.int (nI o)), none, none, none]) (st' := [.int (nI p), .ref og]) (by decide +kernel) rfl ?_
      refine V.aaldS (j := p) (b := (og + 1 + p)) hG hF (by decide +kernel) k1 (by omega) (by first | decide | omega) (k2 p hp) ?_
      refine V.run hF [(.iload 19, 2, .null)] (pc' := 519) (L' := [some (.ref sb), some (.ref (A 0)), some (.ref (qo q)), some (.int (nI i)), some (.int x4), some (.int (nI (gT σ))), some (.int (gLn σ (gT σ))), some (.int (gTo σ (gT σ))), some (.int (unT σ (gT σ))), some (.ref og), some (.ref mny), some (.int (anyT σ (gT σ))), some (.int (sumT (hb σ) p)), some (.int (sumT (atR σ) p)), some (.int (rdT σ p)), some (.int (nI p)), some (.int (sumT (itf σ p) o + (gOw σ (nI o) (nI p) (gT σ) - gOw σ (nI p) (nI o) (gT σ)))), some (.int (nI (aln σ p))), some (.int (nI (dct σ p o))), some (.int (nI o)), none, none, none]) (st' := [.int (nI o), .ref (og + 1 + p)]) (by decide +kernel) rfl ?_
      refine V.ialdN (j := o) hG hF (by decide +kernel) p4 (by omega) (by first | decide | omega) ?_
      rw [p5 o z1]
      refine V.if_ne hF (off := 6) (tgt := 526) (by decide +kernel) (by decide) (fun z3 => ?_) (fun z3 => ?_)
      · rw [if_neg z3] at ds
        have go := fun (hx : Hp) (L20 L21 L22 : Option Value) => oh z1 hx L20 L21 L22
        simp only [ds] at go
        have hEd := (gOw_Ed hA hS6 h0 h8).mp z3
        have a1 := aln_1 hR hp z1 hEd
        have ao7 : aln σ o ≤ 7 := aln_7 z1
        refine V.run hF [(.iinc 18 1, 3, .int 1)] (pc' := 529) (L' := [some (.ref sb), some (.ref (A 0)), some (.ref (qo q)), some (.int (nI i)), some (.int x4), some (.int (nI (gT σ))), some (.int (gLn σ (gT σ))), some (.int (gTo σ (gT σ))), some (.int (unT σ (gT σ))), some (.ref og), some (.ref mny), some (.int (anyT σ (gT σ))), some (.int (sumT (hb σ) p)), some (.int (sumT (atR σ) p)), some (.int (rdT σ p)), some (.int (nI p)), some (.int (sumT (itf σ p) o + (gOw σ (nI o) (nI p) (gT σ) - gOw σ (nI p) (nI o) (gT σ)))), some (.int (nI (aln σ p))), some (.int ((nI (dct σ p o)) + 1)), some (.int (nI o)), none, none, none]) (st' := []) (by decide +kernel) rfl ?_
        rw [nI_1 (dct σ p o)]
        refine V.run hF [(.aload_n 1, 1, .null), (.iload 19, 2, .null)] (pc' := 532) (L' := [some (.ref sb), some (.ref (A 0)), some (.ref (qo q)), some (.int (nI i)), some (.int x4), some (.int (nI (gT σ))), some (.int (gLn σ (gT σ))), some (.int (gTo σ (gT σ))), some (.int (unT σ (gT σ))), some (.ref og), some (.ref mny), some (.int (anyT σ (gT σ))), some (.int (sumT (hb σ) p)), some (.int (sumT (atR σ) p)), some (.int (rdT σ p)), some (.int (nI p)), some (.int (sumT (itf σ p) o + (gOw σ (nI o) (nI p) (gT σ) - gOw σ (nI p) (nI o) (gT σ)))), some (.int (nI (aln σ p))), some (.int (nI (dct σ p o + 1))), some (.int (nI o)), none, none, none]) (st' := [.int (nI o), .ref (A 0)]) (by decide +kernel) rfl ?_
        refine V.less (kc' := (K1 + 3 * (7 - o)) + 1) (ks' := (K2 + 18 * (7 - o)) + 6) (by omega) (by omega) ?_
        refine V.callV (As := [.int (nI o)]) (st := []) hG hF k_RL_133 (by decide +kernel) (hp_owesAlong hG hC z1) gA rfl rfl ⟨by rw [hRm]; decide, by rw [hRm]; decide⟩ (Nat.le_of_ble_eq_true rfl) rfl (fun v h6 hp6 => ?_) (fun E h9 hx => hx.elim)
        obtain ⟨hv6, r6, hC6, hk6⟩ := hp6
        have hL6 := hL.kp hP hSm hC hO hC6 hk6
        rw [hv6, gOA_aln hR z1]
        show V G F _ _ _ 535 [some (.ref sb), some (.ref (A 0)), some (.ref (qo q)), some (.int (nI i)), some (.int x4), some (.int (nI (gT σ))), some (.int (gLn σ (gT σ))), some (.int (gTo σ (gT σ))), some (.int (unT σ (gT σ))), some (.ref og), some (.ref mny), some (.int (anyT σ (gT σ))), some (.int (sumT (hb σ) p)), some (.int (sumT (atR σ) p)), some (.int (rdT σ p)), some (.int (nI p)), some (.int (sumT (itf σ p) o + (gOw σ (nI o) (nI p) (gT σ) - gOw σ (nI p) (nI o) (gT σ)))), some (.int (nI (aln σ p))), some (.int (nI (dct σ p o + 1))), some (.int (nI o)), none, none, none] [.int (nI (aln σ o))] h6
        refine V.run hF [(.iload 17, 2, .null), (.iconst 1, 1, .int (nI 1)), (.iadd, 1, .null)] (pc' := 539) (L' := [some (.ref sb), some (.ref (A 0)), some (.ref (qo q)), some (.int (nI i)), some (.int x4), some (.int (nI (gT σ))), some (.int (gLn σ (gT σ))), some (.int (gTo σ (gT σ))), some (.int (unT σ (gT σ))), some (.ref og), some (.ref mny), some (.int (anyT σ (gT σ))), some (.int (sumT (hb σ) p)), some (.int (sumT (atR σ) p)), some (.int (rdT σ p)), some (.int (nI p)), some (.int (sumT (itf σ p) o + (gOw σ (nI o) (nI p) (gT σ) - gOw σ (nI p) (nI o) (gT σ)))), some (.int (nI (aln σ p))), some (.int (nI (dct σ p o + 1))), some (.int (nI o)), none, none, none]) (st' := [.int (nI (aln σ p) + nI 1), .int (nI (aln σ o))]) (by decide +kernel) rfl ?_
        rw [nI_add (aln σ p) 1]
        refine V.icmpN_le (i := aln σ o) (j := aln σ p + 1) hF (off := 5) (tgt := 544) (by decide +kernel) (by decide) (by omega) (by omega) (fun z4 => ?_) (fun z4 => ?_)
        · skip
          refine V.run hF [(.iinc 19 1, 3, .int 1), (.goto (-85), 3, .null)] (pc' := 462) (L' := [some (.ref sb), some (.ref (A 0)), some (.ref (qo q)), some (.int (nI i)), some (.int x4), some (.int (nI (gT σ))), some (.int (gLn σ (gT σ))), some (.int (gTo σ (gT σ))), some (.int (unT σ (gT σ))), some (.ref og), some (.ref mny), some (.int (anyT σ (gT σ))), some (.int (sumT (hb σ) p)), some (.int (sumT (atR σ) p)), some (.int (rdT σ p)), some (.int (nI p)), some (.int (sumT (itf σ p) o + (gOw σ (nI o) (nI p) (gT σ) - gOw σ (nI p) (nI o) (gT σ)))), some (.int (nI (aln σ p))), some (.int (nI (dct σ p o + 1))), some (.int ((nI o) + 1)), none, none, none]) (st' := []) (by decide +kernel) rfl ?_
          rw [nI_1 o]
          exact V.less (by omega) (by omega) (go h6 _ _ _ hL6)
        · skip
          exact absurd a1 (by omega)
      · skip
        rw [if_pos z3, Nat.add_zero] at ds
        have go := fun (hx : Hp) (L20 L21 L22 : Option Value) => oh z1 hx L20 L21 L22
        simp only [ds] at go
        refine V.run hF [(.goto 21, 3, .null), (.iinc 19 1, 3, .int 1), (.goto (-85), 3, .null)] (pc' := 462) (L' := [some (.ref sb), some (.ref (A 0)), some (.ref (qo q)), some (.int (nI i)), some (.int x4), some (.int (nI (gT σ))), some (.int (gLn σ (gT σ))), some (.int (gTo σ (gT σ))), some (.int (unT σ (gT σ))), some (.ref og), some (.ref mny), some (.int (anyT σ (gT σ))), some (.int (sumT (hb σ) p)), some (.int (sumT (atR σ) p)), some (.int (rdT σ p)), some (.int (nI p)), some (.int (sumT (itf σ p) o + (gOw σ (nI o) (nI p) (gT σ) - gOw σ (nI p) (nI o) (gT σ)))), some (.int (nI (aln σ p))), some (.int (nI (dct σ p o))), some (.int ((nI o) + 1)), none, none, none]) (st' := []) (by decide +kernel) rfl ?_
        rw [nI_1 o]
        exact V.less (by omega) (by omega) (go hh _ _ _ hL)
    · skip
      exact absurd rfl z2
set_option maxHeartbeats 16000000 in
theorem law_persons (hG : GOk G) (hF : Ok G F RL cL_law 23 (some .boolean)) (hRm : fR F = room_1) (hO : SO A q) (hR : RI σ) (hA : Am σ S) (hS6 : S ≤ 1000000) (h0 : 0 ≤ S) (hy : gy σ ≤ 100000) (h8 : gT σ ≤ 8) (hP : LPl A q σ og mny) {K1 K2 : Nat} {fm : Nat → Int32}
    (kend : ∀ (hh : Hp) (L15 L16 L17 L18 L19 L20 L21 L22 : Option Value), LW A q σ og mny hh (fun a b => gOw σ (nI a) (nI b) (gT σ)) fm → V G F Q K1 K2 703 [some (.ref sb), some (.ref (A 0)), some (.ref (qo q)), some (.int (nI i)), some (.int x4), some (.int (nI (gT σ))), some (.int (gLn σ (gT σ))), some (.int (gTo σ (gT σ))), some (.int (unT σ (gT σ))), some (.ref og), some (.ref mny), some (.int (anyT σ (gT σ))), some (.int (sumT (hb σ) 8)), some (.int (sumT (atR σ) 8)), some (.int (rdT σ 8)), L15, L16, L17, L18, L19, L20, L21, L22] [] hh) :
    ∀ p, p ≤ 8 → ∀ (hh : Hp) (L16 L17 L18 L19 L20 L21 L22 : Option Value), LW A q σ og mny hh (fun a b => gOw σ (nI a) (nI b) (gT σ)) fm → V G F Q (K1 + 40 * (8 - p)) (K2 + 240 * (8 - p)) 438 [some (.ref sb), some (.ref (A 0)), some (.ref (qo q)), some (.int (nI i)), some (.int x4), some (.int (nI (gT σ))), some (.int (gLn σ (gT σ))), some (.int (gTo σ (gT σ))), some (.int (unT σ (gT σ))), some (.ref og), some (.ref mny), some (.int (anyT σ (gT σ))), some (.int (sumT (hb σ) p)), some (.int (sumT (atR σ) p)), some (.int (rdT σ p)), some (.int (nI p)), L16, L17, L18, L19, L20, L21, L22] [] hh := by
  refine lp_up 8 fun p hp ih hh L16 L17 L18 L19 L20 L21 L22 hL => ?_
  obtain ⟨⟨P, r, hC, hSm⟩, l2, l3⟩ := id hL
  have gA := hC.2.2.1
  refine V.loc (L' := [some (.ref sb), some (.ref (A 0)), some (.ref (qo q)), some (.int (nI i)), some (.int x4), some (.int (nI (gT σ))), some (.int (gLn σ (gT σ))), some (.int (gTo σ (gT σ))), some (.int (unT σ (gT σ))), some (.ref og), some (.ref mny), some (.int (anyT σ (gT σ))), some (.int (sumT (hb σ) p)), some (.int (sumT (atR σ) p)), some (.int (rdT σ p)), some (.int (nI p)), none, none, none, none, none, none, none]) (fun j v hv => by
    match j, hv with
    | 0, hv => exact hv
    | 1, hv => exact hv
    | 2, hv => exact hv
    | 3, hv => exact hv
    | 4, hv => exact hv
    | 5, hv => exact hv
    | 6, hv => exact hv
    | 7, hv => exact hv
    | 8, hv => exact hv
    | 9, hv => exact hv
    | 10, hv => exact hv
    | 11, hv => exact hv
    | 12, hv => exact hv
    | 13, hv => exact hv
    | 14, hv => exact hv
    | 15, hv => exact hv
    | 16, hv => cases hv
    | 17, hv => cases hv
    | 18, hv => cases hv
    | 19, hv => cases hv
    | 20, hv => cases hv
    | 21, hv => cases hv
    | 22, hv => cases hv
    | zz + 23, hv => cases hv) ?_
  refine V.run hF [(.iload 15, 2, .null), (.bipush 8, 2, .int (nI 8))] (pc' := 442) (L' := [some (.ref sb), some (.ref (A 0)), some (.ref (qo q)), some (.int (nI i)), some (.int x4), some (.int (nI (gT σ))), some (.int (gLn σ (gT σ))), some (.int (gTo σ (gT σ))), some (.int (unT σ (gT σ))), some (.ref og), some (.ref mny), some (.int (anyT σ (gT σ))), some (.int (sumT (hb σ) p)), some (.int (sumT (atR σ) p)), some (.int (rdT σ p)), some (.int (nI p)), none, none, none, none, none, none, none]) (st' := [.int (nI 8), .int (nI p)]) (by decide +kernel) rfl ?_
  refine V.icmpN_ge (i := p) (j := 8) hF (off := 261) (tgt := 703) (by decide +kernel) (by decide) (by omega) (by omega) (fun z1 => ?_) (fun z1 => ?_)
  · have e8 : p = 8 := by omega
    rw [e8]
    exact V.less (by omega) (by omega) (kend _ _ _ _ _ _ _ _ _ hL)
  · skip
    have a7 : aln σ p ≤ 7 := aln_7 z1
    have d8 : dct σ p 8 ≤ 8 := cb_le 8
    have d9 := dct_aln hR hA hS6 h0 h8 z1
    have a0 := aln_0 hR hA hS6 h0 h8 z1
    have hits : sumT (itf σ p) 8 = hb σ p := its_eq hR z1 (gT σ) (Nat.le_refl _)
    refine V.run hF [(.iconst 0, 1, .int 0), (.istore 16, 2, .null), (.aload_n 1, 1, .null), (.iload 15, 2, .null)] (pc' := 451) (L' := [some (.ref sb), some (.ref (A 0)), some (.ref (qo q)), some (.int (nI i)), some (.int x4), some (.int (nI (gT σ))), some (.int (gLn σ (gT σ))), some (.int (gTo σ (gT σ))), some (.int (unT σ (gT σ))), some (.ref og), some (.ref mny), some (.int (anyT σ (gT σ))), some (.int (sumT (hb σ) p)), some (.int (sumT (atR σ) p)), some (.int (rdT σ p)), some (.int (nI p)), some (.int 0), none, none, none, none, none, none]) (st' := [.int (nI p), .ref (A 0)]) (by decide +kernel) rfl ?_
    refine V.less (kc' := (K1 + 40 * (7 - p) + 39) + 1) (ks' := (K2 + 240 * (7 - p) + 234) + 6) (by omega) (by omega) ?_
    refine V.callV (As := [.int (nI p)]) (st := []) hG hF k_RL_133 (by decide +kernel) (hp_owesAlong hG hC z1) gA rfl rfl ⟨by rw [hRm]; decide, by rw [hRm]; decide⟩ (Nat.le_of_ble_eq_true rfl) rfl (fun v h5 hp5 => ?_) (fun E h9 hx => hx.elim)
    obtain ⟨hv5, r5, hC5, hk5⟩ := hp5
    have hL5 := hL.kp hP hSm hC hO hC5 hk5
    rw [hv5, gOA_aln hR z1]
    show V G F _ _ _ 454 [some (.ref sb), some (.ref (A 0)), some (.ref (qo q)), some (.int (nI i)), some (.int x4), some (.int (nI (gT σ))), some (.int (gLn σ (gT σ))), some (.int (gTo σ (gT σ))), some (.int (unT σ (gT σ))), some (.ref og), some (.ref mny), some (.int (anyT σ (gT σ))), some (.int (sumT (hb σ) p)), some (.int (sumT (atR σ) p)), some (.int (rdT σ p)), some (.int (nI p)), some (.int 0), none, none, none, none, none, none] [.int (nI (aln σ p))] h5
    refine V.run hF [(.istore 17, 2, .null), (.iconst 0, 1, .int (nI 0)), (.istore 18, 2, .null), (.iconst 0, 1, .int (nI 0)), (.istore 19, 2, .null)] (pc' := 462) (L' := [some (.ref sb), some (.ref (A 0)), some (.ref (qo q)), some (.int (nI i)), some (.int x4), some (.int (nI (gT σ))), some (.int (gLn σ (gT σ))), some (.int (gTo σ (gT σ))), some (.int (unT σ (gT σ))), some (.ref og), some (.ref mny), some (.int (anyT σ (gT σ))), some (.int (sumT (hb σ) p)), some (.int (sumT (atR σ) p)), some (.int (rdT σ p)), some (.int (nI p)), some (.int 0), some (.int (nI (aln σ p))), some (.int (nI 0)), some (.int (nI 0)), none, none, none]) (st' := []) (by decide +kernel) rfl ?_
    have ho := law_owes hG hF hRm hO hR hA hS6 h0 hy h8 hP (Q := Q) (sb := sb) (i := i) (x4 := x4) (K1 := K1 + 40 * (7 - p) + 15) (K2 := K2 + 240 * (7 - p) + 90) (fm := fm) z1 (fun h6 L20 L21 L22 hL6 => ?_) 0 (Nat.zero_le _) h5
    · exact V.less (by omega) (by omega) (ho _ _ _ hL5)
    · obtain ⟨⟨P6, r6, hC6, hSm6⟩, -, -⟩ := id hL6
      have gA6 := hC6.2.2.1
      rw [hits]
      obtain ⟨rr, er⟩ : ∃ z, z = pmax (hb σ) 7 := ⟨_, rfl⟩
      have r8 : rr < 8 := by
        have := pmax_le (hb σ) 7
        omega
      have hmax : (hb σ p).toInt ≤ (hb σ rr).toInt := by rw [er]; exact pmax_T (hb σ) 7 p (by omega)
      have hfst : p < rr → (hb σ p).toInt < (hb σ rr).toInt := by rw [er]; exact pmax_F (hb σ) 7 p
      have hrk := (gRk_b hA hS6 h0 h8 (p := nI p) (gT σ) (Nat.le_refl _)).1
      have hat : ¬ atR σ p < 0 := fun y => by
        rw [Int32.lt_iff_toInt_lt, t_0] at y
        have hy2 : (atR σ p).toInt = 0 ∨ (atR σ p).toInt = (gRk σ (nI p) (gT σ)).toInt := by
          by_cases w : gth σ p = 0
          · rw [atR, if_pos w]
            exact Or.inl t_0
          · rw [atR, if_neg w]
            exact Or.inr rfl
        rcases hy2 with w | w <;> omega
      refine V.loc (L' := [some (.ref sb), some (.ref (A 0)), some (.ref (qo q)), some (.int (nI i)), some (.int x4), some (.int (nI (gT σ))), some (.int (gLn σ (gT σ))), some (.int (gTo σ (gT σ))), some (.int (unT σ (gT σ))), some (.ref og), some (.ref mny), some (.int (anyT σ (gT σ))), some (.int (sumT (hb σ) p)), some (.int (sumT (atR σ) p)), some (.int (rdT σ p)), some (.int (nI p)), some (.int (hb σ p)), some (.int (nI (aln σ p))), some (.int (nI (dct σ p 8))), none, none, none, none]) (fun j v hv => by
        match j, hv with
        | 0, hv => exact hv
        | 1, hv => exact hv
        | 2, hv => exact hv
        | 3, hv => exact hv
        | 4, hv => exact hv
        | 5, hv => exact hv
        | 6, hv => exact hv
        | 7, hv => exact hv
        | 8, hv => exact hv
        | 9, hv => exact hv
        | 10, hv => exact hv
        | 11, hv => exact hv
        | 12, hv => exact hv
        | 13, hv => exact hv
        | 14, hv => exact hv
        | 15, hv => exact hv
        | 16, hv => exact hv
        | 17, hv => exact hv
        | 18, hv => exact hv
        | 19, hv => cases hv
        | 20, hv => cases hv
        | 21, hv => cases hv
        | 22, hv => cases hv
        | zz + 23, hv => cases hv) ?_
      refine V.run hF [(.iload 12, 2, .null), (.iload 16, 2, .null), (.iadd, 1, .null), (.istore 12, 2, .null), (.iload 13, 2, .null), (.aload_n 1, 1, .null), (.iload 15, 2, .null)] (pc' := 562) (L' := [some (.ref sb), some (.ref (A 0)), some (.ref (qo q)), some (.int (nI i)), some (.int x4), some (.int (nI (gT σ))), some (.int (gLn σ (gT σ))), some (.int (gTo σ (gT σ))), some (.int (unT σ (gT σ))), some (.ref og), some (.ref mny), some (.int (anyT σ (gT σ))), some (.int (sumT (hb σ) p + hb σ p)), some (.int (sumT (atR σ) p)), some (.int (rdT σ p)), some (.int (nI p)), some (.int (hb σ p)), some (.int (nI (aln σ p))), some (.int (nI (dct σ p 8))), none, none, none, none]) (st' := [.int (nI p), .ref (A 0), .int (sumT (atR σ) p)]) (by decide +kernel) rfl ?_
      refine V.less (kc' := (K1 + 40 * (7 - p) + 14) + 1) (ks' := (K2 + 240 * (7 - p) + 84) + 6) (by omega) (by omega) ?_
      refine V.callV (As := [.int (nI p)]) (st := [.int (sumT (atR σ) p)]) hG hF k_RL_139 (by decide +kernel) (hp_atRisk hG hC6 z1) gA6 rfl rfl ⟨by rw [hRm]; decide, by rw [hRm]; decide⟩ (Nat.le_of_ble_eq_true rfl) rfl (fun v h_2 gp2 => ?_) (fun E h9 hx => hx.elim)
      obtain ⟨rfl, he_gp2⟩ := gp2
      rw [he_gp2]
      show V G F _ _ _ 565 [some (.ref sb), some (.ref (A 0)), some (.ref (qo q)), some (.int (nI i)), some (.int x4), some (.int (nI (gT σ))), some (.int (gLn σ (gT σ))), some (.int (gTo σ (gT σ))), some (.int (unT σ (gT σ))), some (.ref og), some (.ref mny), some (.int (anyT σ (gT σ))), some (.int (sumT (hb σ) p + hb σ p)), some (.int (sumT (atR σ) p)), some (.int (rdT σ p)), some (.int (nI p)), some (.int (hb σ p)), some (.int (nI (aln σ p))), some (.int (nI (dct σ p 8))), none, none, none, none] [.int (atR σ p), .int (sumT (atR σ) p)] h6
      refine V.run hF [(.iadd, 1, .null), (.istore 13, 2, .null), (.iload 14, 2, .null)] (pc' := 570) (L' := [some (.ref sb), some (.ref (A 0)), some (.ref (qo q)), some (.int (nI i)), some (.int x4), some (.int (nI (gT σ))), some (.int (gLn σ (gT σ))), some (.int (gTo σ (gT σ))), some (.int (unT σ (gT σ))), some (.ref og), some (.ref mny), some (.int (anyT σ (gT σ))), some (.int (sumT (hb σ) p + hb σ p)), some (.int (sumT (atR σ) p + atR σ p)), some (.int (rdT σ p)), some (.int (nI p)), some (.int (hb σ p)), some (.int (nI (aln σ p))), some (.int (nI (dct σ p 8))), none, none, none, none]) (st' := [.int (rdT σ p)]) (by decide +kernel) rfl ?_
      -- from 585 on
      have rest : V G F Q (K1 + 40 * (7 - p) + 14) (K2 + 240 * (7 - p) + 84) 585 [some (.ref sb), some (.ref (A 0)), some (.ref (qo q)), some (.int (nI i)), some (.int x4), some (.int (nI (gT σ))), some (.int (gLn σ (gT σ))), some (.int (gTo σ (gT σ))), some (.int (unT σ (gT σ))), some (.ref og), some (.ref mny), some (.int (anyT σ (gT σ))), some (.int (sumT (hb σ) (p + 1))), some (.int (sumT (atR σ) (p + 1))), some (.int (rdT σ (p + 1))), some (.int (nI p)), some (.int (hb σ p)), some (.int (nI (aln σ p))), some (.int (nI (dct σ p 8))), none, none, none, none] [] h6 := by
        refine V.run hF [(.aload_n 1, 1, .null), (.iload 15, 2, .null)] (pc' := 588) (L' := [some (.ref sb), some (.ref (A 0)), some (.ref (qo q)), some (.int (nI i)), some (.int x4), some (.int (nI (gT σ))), some (.int (gLn σ (gT σ))), some (.int (gTo σ (gT σ))), some (.int (unT σ (gT σ))), some (.ref og), some (.ref mny), some (.int (anyT σ (gT σ))), some (.int (sumT (hb σ) (p + 1))), some (.int (sumT (atR σ) (p + 1))), some (.int (rdT σ (p + 1))), some (.int (nI p)), some (.int (hb σ p)), some (.int (nI (aln σ p))), some (.int (nI (dct σ p 8))), none, none, none, none]) (st' := [.int (nI p), .ref (A 0)]) (by decide +kernel) rfl ?_
        refine V.less (kc' := (K1 + 40 * (7 - p) + 13) + 1) (ks' := (K2 + 240 * (7 - p) + 78) + 6) (by omega) (by omega) ?_
        refine V.callV (As := [.int (nI p)]) (st := []) hG hF k_RL_142 (by decide +kernel) (hp_has hG hC6 z1) gA6 rfl rfl ⟨by rw [hRm]; decide, by rw [hRm]; decide⟩ (Nat.le_of_ble_eq_true rfl) rfl (fun v h_3 gp3 => ?_) (fun E h9 hx => hx.elim)
        obtain ⟨rfl, he_gp3⟩ := gp3
        rw [he_gp3]
        show V G F _ _ _ 591 [some (.ref sb), some (.ref (A 0)), some (.ref (qo q)), some (.int (nI i)), some (.int x4), some (.int (nI (gT σ))), some (.int (gLn σ (gT σ))), some (.int (gTo σ (gT σ))), some (.int (unT σ (gT σ))), some (.ref og), some (.ref mny), some (.int (anyT σ (gT σ))), some (.int (sumT (hb σ) (p + 1))), some (.int (sumT (atR σ) (p + 1))), some (.int (rdT σ (p + 1))), some (.int (nI p)), some (.int (hb σ p)), some (.int (nI (aln σ p))), some (.int (nI (dct σ p 8))), none, none, none, none] [.int (hb σ p)] h6
        refine V.run hF [(.iload 16, 2, .null)] (pc' := 593) (L' := [some (.ref sb), some (.ref (A 0)), some (.ref (qo q)), some (.int (nI i)), some (.int x4), some (.int (nI (gT σ))), some (.int (gLn σ (gT σ))), some (.int (gTo σ (gT σ))), some (.int (unT σ (gT σ))), some (.ref og), some (.ref mny), some (.int (anyT σ (gT σ))), some (.int (sumT (hb σ) (p + 1))), some (.int (sumT (atR σ) (p + 1))), some (.int (rdT σ (p + 1))), some (.int (nI p)), some (.int (hb σ p)), some (.int (nI (aln σ p))), some (.int (nI (dct σ p 8))), none, none, none, none]) (st' := [.int (hb σ p), .int (hb σ p)]) (by decide +kernel) rfl ?_
        refine V.icmp_ne hF (off := 102) (tgt := 695) (by decide +kernel) (by decide) (fun z2 => ?_) (fun z2 => ?_)
        · exact absurd rfl z2
        · skip
          refine V.run hF [(.iload 16, 2, .null), (.aload_n 1, 1, .null), (.aload_n 1, 1, .null)] (pc' := 600) (L' := [some (.ref sb), some (.ref (A 0)), some (.ref (qo q)), some (.int (nI i)), some (.int x4), some (.int (nI (gT σ))), some (.int (gLn σ (gT σ))), some (.int (gTo σ (gT σ))), some (.int (unT σ (gT σ))), some (.ref og), some (.ref mny), some (.int (anyT σ (gT σ))), some (.int (sumT (hb σ) (p + 1))), some (.int (sumT (atR σ) (p + 1))), some (.int (rdT σ (p + 1))), some (.int (nI p)), some (.int (hb σ p)), some (.int (nI (aln σ p))), some (.int (nI (dct σ p 8))), none, none, none, none]) (st' := [.ref (A 0), .ref (A 0), .int (hb σ p)]) (by decide +kernel) rfl ?_
          refine V.less (kc' := (K1 + 40 * (7 - p) + 13) + 0) (ks' := (K2 + 240 * (7 - p) + 78) + 0) (by omega) (by omega) ?_
          refine V.callV (As := []) (st := [.ref (A 0), .int (hb σ p)]) hG hF k_RL_145 (by decide +kernel) (c_X3_richest hG hC6) gA6 rfl rfl ⟨by rw [hRm]; decide, by rw [hRm]; decide⟩ (Nat.le_of_ble_eq_true rfl) rfl (fun v h_4 gp4 => ?_) (fun E h9 hx => hx.elim)
          obtain ⟨rfl, he_gp4⟩ := gp4
          rw [he_gp4]
          show V G F _ _ _ 603 [some (.ref sb), some (.ref (A 0)), some (.ref (qo q)), some (.int (nI i)), some (.int x4), some (.int (nI (gT σ))), some (.int (gLn σ (gT σ))), some (.int (gTo σ (gT σ))), some (.int (unT σ (gT σ))), some (.ref og), some (.ref mny), some (.int (anyT σ (gT σ))), some (.int (sumT (hb σ) (p + 1))), some (.int (sumT (atR σ) (p + 1))), some (.int (rdT σ (p + 1))), some (.int (nI p)), some (.int (hb σ p)), some (.int (nI (aln σ p))), some (.int (nI (dct σ p 8))), none, none, none, none] [.int (nI (pmax (hb σ) 7)), .ref (A 0), .int (hb σ p)] h6
          rw [← er]
          refine V.less (kc' := (K1 + 40 * (7 - p) + 12) + 1) (ks' := (K2 + 240 * (7 - p) + 72) + 6) (by omega) (by omega) ?_
          refine V.callV (As := [.int (nI rr)]) (st := [.int (hb σ p)]) hG hF k_RL_142 (by decide +kernel) (hp_has hG hC6 r8) gA6 rfl rfl ⟨by rw [hRm]; decide, by rw [hRm]; decide⟩ (Nat.le_of_ble_eq_true rfl) rfl (fun v h_5 gp5 => ?_) (fun E h9 hx => hx.elim)
          obtain ⟨rfl, he_gp5⟩ := gp5
          rw [he_gp5]
          show V G F _ _ _ 606 [some (.ref sb), some (.ref (A 0)), some (.ref (qo q)), some (.int (nI i)), some (.int x4), some (.int (nI (gT σ))), some (.int (gLn σ (gT σ))), some (.int (gTo σ (gT σ))), some (.int (unT σ (gT σ))), some (.ref og), some (.ref mny), some (.int (anyT σ (gT σ))), some (.int (sumT (hb σ) (p + 1))), some (.int (sumT (atR σ) (p + 1))), some (.int (rdT σ (p + 1))), some (.int (nI p)), some (.int (hb σ p)), some (.int (nI (aln σ p))), some (.int (nI (dct σ p 8))), none, none, none, none] [.int (hb σ rr), .int (hb σ p)] h6
          refine V.icmp_gt hF (off := 89) (tgt := 695) (by decide +kernel) (by decide) (fun z2 => ?_) (fun z2 => ?_)
          · exact absurd (Int32.lt_iff_toInt_lt.mp z2) (Int.not_lt.mpr hmax)
          · skip
            have along : V G F Q (K1 + 40 * (7 - p) + 11) (K2 + 240 * (7 - p) + 66) 631 [some (.ref sb), some (.ref (A 0)), some (.ref (qo q)), some (.int (nI i)), some (.int x4), some (.int (nI (gT σ))), some (.int (gLn σ (gT σ))), some (.int (gTo σ (gT σ))), some (.int (unT σ (gT σ))), some (.ref og), some (.ref mny), some (.int (anyT σ (gT σ))), some (.int (sumT (hb σ) (p + 1))), some (.int (sumT (atR σ) (p + 1))), some (.int (rdT σ (p + 1))), some (.int (nI p)), some (.int (hb σ p)), some (.int (nI (aln σ p))), some (.int (nI (dct σ p 8))), none, none, none, none] [] h6 := by
              refine V.run hF [(.iload 17, 2, .null), (.iload 18, 2, .null)] (pc' := 635) (L' := [some (.ref sb), some (.ref (A 0)), some (.ref (qo q)), some (.int (nI i)), some (.int x4), some (.int (nI (gT σ))), some (.int (gLn σ (gT σ))), some (.int (gTo σ (gT σ))), some (.int (unT σ (gT σ))), some (.ref og), some (.ref mny), some (.int (anyT σ (gT σ))), some (.int (sumT (hb σ) (p + 1))), some (.int (sumT (atR σ) (p + 1))), some (.int (rdT σ (p + 1))), some (.int (nI p)), some (.int (hb σ p)), some (.int (nI (aln σ p))), some (.int (nI (dct σ p 8))), none, none, none, none]) (st' := [.int (nI (dct σ p 8)), .int (nI (aln σ p))]) (by decide +kernel) rfl ?_
              refine V.icmpN_lt (i := aln σ p) (j := dct σ p 8) hF (off := 60) (tgt := 695) (by decide +kernel) (by decide) (by omega) (by omega) (fun z3 => ?_) (fun z3 => ?_)
              · exact absurd z3 (by omega)
              · skip
                refine V.run hF [(.iload 17, 2, .null), (.bipush 7, 2, .int (nI 7))] (pc' := 642) (L' := [some (.ref sb), some (.ref (A 0)), some (.ref (qo q)), some (.int (nI i)), some (.int x4), some (.int (nI (gT σ))), some (.int (gLn σ (gT σ))), some (.int (gTo σ (gT σ))), some (.int (unT σ (gT σ))), some (.ref og), some (.ref mny), some (.int (anyT σ (gT σ))), some (.int (sumT (hb σ) (p + 1))), some (.int (sumT (atR σ) (p + 1))), some (.int (rdT σ (p + 1))), some (.int (nI p)), some (.int (hb σ p)), some (.int (nI (aln σ p))), some (.int (nI (dct σ p 8))), none, none, none, none]) (st' := [.int (nI 7), .int (nI (aln σ p))]) (by decide +kernel) rfl ?_
                refine V.icmpN_gt (i := aln σ p) (j := 7) hF (off := 53) (tgt := 695) (by decide +kernel) (by decide) (by omega) (by omega) (fun z3 => ?_) (fun z3 => ?_)
                · exact absurd z3 (by omega)
                · skip
                  -- from 668 on
                  have tail : V G F Q (K1 + 40 * (7 - p) + 11) (K2 + 240 * (7 - p) + 66) 668 [some (.ref sb), some (.ref (A 0)), some (.ref (qo q)), some (.int (nI i)), some (.int x4), some (.int (nI (gT σ))), some (.int (gLn σ (gT σ))), some (.int (gTo σ (gT σ))), some (.int (unT σ (gT σ))), some (.ref og), some (.ref mny), some (.int (anyT σ (gT σ))), some (.int (sumT (hb σ) (p + 1))), some (.int (sumT (atR σ) (p + 1))), some (.int (rdT σ (p + 1))), some (.int (nI p)), some (.int (hb σ p)), some (.int (nI (aln σ p))), some (.int (nI (dct σ p 8))), none, none, none, none] [] h6 := by
                    have nxt : V G F Q (K1 + 40 * (7 - p) + 8) (K2 + 240 * (7 - p) + 48) 697 [some (.ref sb), some (.ref (A 0)), some (.ref (qo q)), some (.int (nI i)), some (.int x4), some (.int (nI (gT σ))), some (.int (gLn σ (gT σ))), some (.int (gTo σ (gT σ))), some (.int (unT σ (gT σ))), some (.ref og), some (.ref mny), some (.int (anyT σ (gT σ))), some (.int (sumT (hb σ) (p + 1))), some (.int (sumT (atR σ) (p + 1))), some (.int (rdT σ (p + 1))), some (.int (nI p)), some (.int (hb σ p)), some (.int (nI (aln σ p))), some (.int (nI (dct σ p 8))), none, none, none, none] [] h6 := by
                      refine V.run hF [(.iinc 15 1, 3, .int 1), (.goto (-262), 3, .null)] (pc' := 438) (L' := [some (.ref sb), some (.ref (A 0)), some (.ref (qo q)), some (.int (nI i)), some (.int x4), some (.int (nI (gT σ))), some (.int (gLn σ (gT σ))), some (.int (gTo σ (gT σ))), some (.int (unT σ (gT σ))), some (.ref og), some (.ref mny), some (.int (anyT σ (gT σ))), some (.int (sumT (hb σ) (p + 1))), some (.int (sumT (atR σ) (p + 1))), some (.int (rdT σ (p + 1))), some (.int ((nI p) + 1)), some (.int (hb σ p)), some (.int (nI (aln σ p))), some (.int (nI (dct σ p 8))), none, none, none, none]) (st' := []) (by decide +kernel) rfl ?_
                      rw [nI_1 p]
                      have k := ih z1 h6 (some (.int (hb σ p))) (some (.int (nI (aln σ p)))) (some (.int (nI (dct σ p 8)))) none none none none hL6
                      exact V.less (kc' := K1 + 40 * (8 - (p + 1))) (ks' := K2 + 240 * (8 - (p + 1))) (by omega) (by omega) k
                    refine V.run hF [(.aload_n 1, 1, .null), (.iload 15, 2, .null)] (pc' := 671) (L' := [some (.ref sb), some (.ref (A 0)), some (.ref (qo q)), some (.int (nI i)), some (.int x4), some (.int (nI (gT σ))), some (.int (gLn σ (gT σ))), some (.int (gTo σ (gT σ))), some (.int (unT σ (gT σ))), some (.ref og), some (.ref mny), some (.int (anyT σ (gT σ))), some (.int (sumT (hb σ) (p + 1))), some (.int (sumT (atR σ) (p + 1))), some (.int (rdT σ (p + 1))), some (.int (nI p)), some (.int (hb σ p)), some (.int (nI (aln σ p))), some (.int (nI (dct σ p 8))), none, none, none, none]) (st' := [.int (nI p), .ref (A 0)]) (by decide +kernel) rfl ?_
                    refine V.less (kc' := (K1 + 40 * (7 - p) + 10) + 1) (ks' := (K2 + 240 * (7 - p) + 60) + 6) (by omega) (by omega) ?_
                    refine V.callV (As := [.int (nI p)]) (st := []) hG hF k_RL_139 (by decide +kernel) (hp_atRisk hG hC6 z1) gA6 rfl rfl ⟨by rw [hRm]; decide, by rw [hRm]; decide⟩ (Nat.le_of_ble_eq_true rfl) rfl (fun v h_6 gp6 => ?_) (fun E h9 hx => hx.elim)
                    obtain ⟨rfl, he_gp6⟩ := gp6
                    rw [he_gp6]
                    show V G F _ _ _ 674 [some (.ref sb), some (.ref (A 0)), some (.ref (qo q)), some (.int (nI i)), some (.int x4), some (.int (nI (gT σ))), some (.int (gLn σ (gT σ))), some (.int (gTo σ (gT σ))), some (.int (unT σ (gT σ))), some (.ref og), some (.ref mny), some (.int (anyT σ (gT σ))), some (.int (sumT (hb σ) (p + 1))), some (.int (sumT (atR σ) (p + 1))), some (.int (rdT σ (p + 1))), some (.int (nI p)), some (.int (hb σ p)), some (.int (nI (aln σ p))), some (.int (nI (dct σ p 8))), none, none, none, none] [.int (atR σ p)] h6
                    refine V.if_lt hF (off := 21) (tgt := 695) (by decide +kernel) (by decide) (fun z4 => ?_) (fun z4 => ?_)
                    · exact absurd z4 hat
                    · skip
                      refine V.run hF [(.aload_n 1, 1, .null), (.iload 15, 2, .null)] (pc' := 680) (L' := [some (.ref sb), some (.ref (A 0)), some (.ref (qo q)), some (.int (nI i)), some (.int x4), some (.int (nI (gT σ))), some (.int (gLn σ (gT σ))), some (.int (gTo σ (gT σ))), some (.int (unT σ (gT σ))), some (.ref og), some (.ref mny), some (.int (anyT σ (gT σ))), some (.int (sumT (hb σ) (p + 1))), some (.int (sumT (atR σ) (p + 1))), some (.int (rdT σ (p + 1))), some (.int (nI p)), some (.int (hb σ p)), some (.int (nI (aln σ p))), some (.int (nI (dct σ p 8))), none, none, none, none]) (st' := [.int (nI p), .ref (A 0)]) (by decide +kernel) rfl ?_
                      refine V.less (kc' := (K1 + 40 * (7 - p) + 9) + 1) (ks' := (K2 + 240 * (7 - p) + 54) + 6) (by omega) (by omega) ?_
                      refine V.callV (As := [.int (nI p)]) (st := []) hG hF k_RL_148 (by decide +kernel) (hp_isThere hG hC6 hR z1) gA6 rfl rfl ⟨by rw [hRm]; decide, by rw [hRm]; decide⟩ (Nat.le_of_ble_eq_true rfl) rfl (fun v h_7 gp7 => ?_) (fun E h9 hx => hx.elim)
                      obtain ⟨rfl, he_gp7⟩ := gp7
                      rw [he_gp7]
                      show V G F _ _ _ 683 [some (.ref sb), some (.ref (A 0)), some (.ref (qo q)), some (.int (nI i)), some (.int x4), some (.int (nI (gT σ))), some (.int (gLn σ (gT σ))), some (.int (gTo σ (gT σ))), some (.int (unT σ (gT σ))), some (.ref og), some (.ref mny), some (.int (anyT σ (gT σ))), some (.int (sumT (hb σ) (p + 1))), some (.int (sumT (atR σ) (p + 1))), some (.int (rdT σ (p + 1))), some (.int (nI p)), some (.int (hb σ p)), some (.int (nI (aln σ p))), some (.int (nI (dct σ p 8))), none, none, none, none] [.int (gth σ p)] h6
                      refine V.if_ne hF (off := 14) (tgt := 697) (by decide +kernel) (by decide) (fun z5 => ?_) (fun z5 => ?_)
                      · exact V.less (by omega) (by omega) nxt
                      · skip
                        refine V.run hF [(.aload_n 1, 1, .null), (.iload 15, 2, .null)] (pc' := 689) (L' := [some (.ref sb), some (.ref (A 0)), some (.ref (qo q)), some (.int (nI i)), some (.int x4), some (.int (nI (gT σ))), some (.int (gLn σ (gT σ))), some (.int (gTo σ (gT σ))), some (.int (unT σ (gT σ))), some (.ref og), some (.ref mny), some (.int (anyT σ (gT σ))), some (.int (sumT (hb σ) (p + 1))), some (.int (sumT (atR σ) (p + 1))), some (.int (rdT σ (p + 1))), some (.int (nI p)), some (.int (hb σ p)), some (.int (nI (aln σ p))), some (.int (nI (dct σ p 8))), none, none, none, none]) (st' := [.int (nI p), .ref (A 0)]) (by decide +kernel) rfl ?_
                        refine V.less (kc' := (K1 + 40 * (7 - p) + 8) + 1) (ks' := (K2 + 240 * (7 - p) + 48) + 6) (by omega) (by omega) ?_
                        refine V.callV (As := [.int (nI p)]) (st := []) hG hF k_RL_139 (by decide +kernel) (hp_atRisk hG hC6 z1) gA6 rfl rfl ⟨by rw [hRm]; decide, by rw [hRm]; decide⟩ (Nat.le_of_ble_eq_true rfl) rfl (fun v h_8 gp8 => ?_) (fun E h9 hx => hx.elim)
                        obtain ⟨rfl, he_gp8⟩ := gp8
                        rw [he_gp8]
                        show V G F _ _ _ 692 [some (.ref sb), some (.ref (A 0)), some (.ref (qo q)), some (.int (nI i)), some (.int x4), some (.int (nI (gT σ))), some (.int (gLn σ (gT σ))), some (.int (gTo σ (gT σ))), some (.int (unT σ (gT σ))), some (.ref og), some (.ref mny), some (.int (anyT σ (gT σ))), some (.int (sumT (hb σ) (p + 1))), some (.int (sumT (atR σ) (p + 1))), some (.int (rdT σ (p + 1))), some (.int (nI p)), some (.int (hb σ p)), some (.int (nI (aln σ p))), some (.int (nI (dct σ p 8))), none, none, none, none] [.int (atR σ p)] h6
                        refine V.if_eq hF (off := 5) (tgt := 697) (by decide +kernel) (by decide) (fun z6 => ?_) (fun z6 => ?_)
                        · exact nxt
                        · skip
                          exact absurd (show atR σ p = 0 by rw [atR, if_pos z5]) z6
                  refine V.run hF [(.iload 17, 2, .null)] (pc' := 647) (L' := [some (.ref sb), some (.ref (A 0)), some (.ref (qo q)), some (.int (nI i)), some (.int x4), some (.int (nI (gT σ))), some (.int (gLn σ (gT σ))), some (.int (gTo σ (gT σ))), some (.int (unT σ (gT σ))), some (.ref og), some (.ref mny), some (.int (anyT σ (gT σ))), some (.int (sumT (hb σ) (p + 1))), some (.int (sumT (atR σ) (p + 1))), some (.int (rdT σ (p + 1))), some (.int (nI p)), some (.int (hb σ p)), some (.int (nI (aln σ p))), some (.int (nI (dct σ p 8))), none, none, none, none]) (st' := [.int (nI (aln σ p))]) (by decide +kernel) rfl ?_
                  refine V.if_ne hF (off := 7) (tgt := 654) (by decide +kernel) (by decide) (fun z4 => ?_) (fun z4 => ?_)
                  · have na : ¬ aln σ p = 0 := fun y => z4 (by rw [y]; rfl)
                    refine V.run hF [(.iconst 0, 1, .int 0), (.iload 18, 2, .null)] (pc' := 657) (L' := [some (.ref sb), some (.ref (A 0)), some (.ref (qo q)), some (.int (nI i)), some (.int x4), some (.int (nI (gT σ))), some (.int (gLn σ (gT σ))), some (.int (gTo σ (gT σ))), some (.int (unT σ (gT σ))), some (.ref og), some (.ref mny), some (.int (anyT σ (gT σ))), some (.int (sumT (hb σ) (p + 1))), some (.int (sumT (atR σ) (p + 1))), some (.int (rdT σ (p + 1))), some (.int (nI p)), some (.int (hb σ p)), some (.int (nI (aln σ p))), some (.int (nI (dct σ p 8))), none, none, none, none]) (st' := [.int (nI (dct σ p 8)), .int 0]) (by decide +kernel) rfl ?_
                    refine V.if_ne hF (off := 7) (tgt := 664) (by decide +kernel) (by decide) (fun z5 => ?_) (fun z5 => ?_)
                    · skip
                      refine V.run hF [(.iconst 0, 1, .int 0)] (pc' := 665) (L' := [some (.ref sb), some (.ref (A 0)), some (.ref (qo q)), some (.int (nI i)), some (.int x4), some (.int (nI (gT σ))), some (.int (gLn σ (gT σ))), some (.int (gTo σ (gT σ))), some (.int (unT σ (gT σ))), some (.ref og), some (.ref mny), some (.int (anyT σ (gT σ))), some (.int (sumT (hb σ) (p + 1))), some (.int (sumT (atR σ) (p + 1))), some (.int (rdT σ (p + 1))), some (.int (nI p)), some (.int (hb σ p)), some (.int (nI (aln σ p))), some (.int (nI (dct σ p 8))), none, none, none, none]) (st' := [.int 0, .int 0]) (by decide +kernel) rfl ?_
                      refine V.icmp_ne hF (off := 30) (tgt := 695) (by decide +kernel) (by decide) (fun z6 => ?_) (fun z6 => ?_)
                      · exact absurd rfl z6
                      · skip
                        exact tail
                    · skip
                      have : dct σ p 8 = 0 := nI_e (b := 0) (by omega) (by decide) z5
                      exact absurd (a0.mpr this) na
                  · skip
                    have na : aln σ p = 0 := nI_e (b := 0) (by omega) (by decide) z4
                    have nd := a0.mp na
                    refine V.run hF [(.iconst 1, 1, .int 1), (.goto 4, 3, .null), (.iload 18, 2, .null)] (pc' := 657) (L' := [some (.ref sb), some (.ref (A 0)), some (.ref (qo q)), some (.int (nI i)), some (.int x4), some (.int (nI (gT σ))), some (.int (gLn σ (gT σ))), some (.int (gTo σ (gT σ))), some (.int (unT σ (gT σ))), some (.ref og), some (.ref mny), some (.int (anyT σ (gT σ))), some (.int (sumT (hb σ) (p + 1))), some (.int (sumT (atR σ) (p + 1))), some (.int (rdT σ (p + 1))), some (.int (nI p)), some (.int (hb σ p)), some (.int (nI (aln σ p))), some (.int (nI (dct σ p 8))), none, none, none, none]) (st' := [.int (nI (dct σ p 8)), .int 1]) (by decide +kernel) rfl ?_
                    refine V.if_ne hF (off := 7) (tgt := 664) (by decide +kernel) (by decide) (fun z5 => ?_) (fun z5 => ?_)
                    · exact absurd (by rw [nd]; rfl) z5
                    · skip
                      refine V.run hF [(.iconst 1, 1, .int 1), (.goto 4, 3, .null)] (pc' := 665) (L' := [some (.ref sb), some (.ref (A 0)), some (.ref (qo q)), some (.int (nI i)), some (.int x4), some (.int (nI (gT σ))), some (.int (gLn σ (gT σ))), some (.int (gTo σ (gT σ))), some (.int (unT σ (gT σ))), some (.ref og), some (.ref mny), some (.int (anyT σ (gT σ))), some (.int (sumT (hb σ) (p + 1))), some (.int (sumT (atR σ) (p + 1))), some (.int (rdT σ (p + 1))), some (.int (nI p)), some (.int (hb σ p)), some (.int (nI (aln σ p))), some (.int (nI (dct σ p 8))), none, none, none, none]) (st' := [.int 1, .int 1]) (by decide +kernel) rfl ?_
                      refine V.icmp_ne hF (off := 30) (tgt := 695) (by decide +kernel) (by decide) (fun z6 => ?_) (fun z6 => ?_)
                      · exact absurd rfl z6
                      · skip
                        exact tail
            refine V.run hF [(.iload 16, 2, .null), (.aload_n 1, 1, .null), (.aload_n 1, 1, .null)] (pc' := 613) (L' := [some (.ref sb), some (.ref (A 0)), some (.ref (qo q)), some (.int (nI i)), some (.int x4), some (.int (nI (gT σ))), some (.int (gLn σ (gT σ))), some (.int (gTo σ (gT σ))), some (.int (unT σ (gT σ))), some (.ref og), some (.ref mny), some (.int (anyT σ (gT σ))), some (.int (sumT (hb σ) (p + 1))), some (.int (sumT (atR σ) (p + 1))), some (.int (rdT σ (p + 1))), some (.int (nI p)), some (.int (hb σ p)), some (.int (nI (aln σ p))), some (.int (nI (dct σ p 8))), none, none, none, none]) (st' := [.ref (A 0), .ref (A 0), .int (hb σ p)]) (by decide +kernel) rfl ?_
            refine V.less (kc' := (K1 + 40 * (7 - p) + 12) + 0) (ks' := (K2 + 240 * (7 - p) + 72) + 0) (by omega) (by omega) ?_
            refine V.callV (As := []) (st := [.ref (A 0), .int (hb σ p)]) hG hF k_RL_145 (by decide +kernel) (c_X3_richest hG hC6) gA6 rfl rfl ⟨by rw [hRm]; decide, by rw [hRm]; decide⟩ (Nat.le_of_ble_eq_true rfl) rfl (fun v h_9 gp9 => ?_) (fun E h9 hx => hx.elim)
            obtain ⟨rfl, he_gp9⟩ := gp9
            rw [he_gp9]
            show V G F _ _ _ 616 [some (.ref sb), some (.ref (A 0)), some (.ref (qo q)), some (.int (nI i)), some (.int x4), some (.int (nI (gT σ))), some (.int (gLn σ (gT σ))), some (.int (gTo σ (gT σ))), some (.int (unT σ (gT σ))), some (.ref og), some (.ref mny), some (.int (anyT σ (gT σ))), some (.int (sumT (hb σ) (p + 1))), some (.int (sumT (atR σ) (p + 1))), some (.int (rdT σ (p + 1))), some (.int (nI p)), some (.int (hb σ p)), some (.int (nI (aln σ p))), some (.int (nI (dct σ p 8))), none, none, none, none] [.int (nI (pmax (hb σ) 7)), .ref (A 0), .int (hb σ p)] h6
            rw [← er]
            refine V.less (kc' := (K1 + 40 * (7 - p) + 11) + 1) (ks' := (K2 + 240 * (7 - p) + 66) + 6) (by omega) (by omega) ?_
            refine V.callV (As := [.int (nI rr)]) (st := [.int (hb σ p)]) hG hF k_RL_142 (by decide +kernel) (hp_has hG hC6 r8) gA6 rfl rfl ⟨by rw [hRm]; decide, by rw [hRm]; decide⟩ (Nat.le_of_ble_eq_true rfl) rfl (fun v h_10 gp10 => ?_) (fun E h9 hx => hx.elim)
            obtain ⟨rfl, he_gp10⟩ := gp10
            rw [he_gp10]
            show V G F _ _ _ 619 [some (.ref sb), some (.ref (A 0)), some (.ref (qo q)), some (.int (nI i)), some (.int x4), some (.int (nI (gT σ))), some (.int (gLn σ (gT σ))), some (.int (gTo σ (gT σ))), some (.int (unT σ (gT σ))), some (.ref og), some (.ref mny), some (.int (anyT σ (gT σ))), some (.int (sumT (hb σ) (p + 1))), some (.int (sumT (atR σ) (p + 1))), some (.int (rdT σ (p + 1))), some (.int (nI p)), some (.int (hb σ p)), some (.int (nI (aln σ p))), some (.int (nI (dct σ p 8))), none, none, none, none] [.int (hb σ rr), .int (hb σ p)] h6
            refine V.icmp_ne hF (off := 12) (tgt := 631) (by decide +kernel) (by decide) (fun z3 => ?_) (fun z3 => ?_)
            · exact along
            · skip
              refine V.run hF [(.iload 15, 2, .null), (.aload_n 1, 1, .null)] (pc' := 625) (L' := [some (.ref sb), some (.ref (A 0)), some (.ref (qo q)), some (.int (nI i)), some (.int x4), some (.int (nI (gT σ))), some (.int (gLn σ (gT σ))), some (.int (gTo σ (gT σ))), some (.int (unT σ (gT σ))), some (.ref og), some (.ref mny), some (.int (anyT σ (gT σ))), some (.int (sumT (hb σ) (p + 1))), some (.int (sumT (atR σ) (p + 1))), some (.int (rdT σ (p + 1))), some (.int (nI p)), some (.int (hb σ p)), some (.int (nI (aln σ p))), some (.int (nI (dct σ p 8))), none, none, none, none]) (st' := [.ref (A 0), .int (nI p)]) (by decide +kernel) rfl ?_
              refine V.less (kc' := (K1 + 40 * (7 - p) + 11) + 0) (ks' := (K2 + 240 * (7 - p) + 66) + 0) (by omega) (by omega) ?_
              refine V.callV (As := []) (st := [.int (nI p)]) hG hF k_RL_145 (by decide +kernel) (c_X3_richest hG hC6) gA6 rfl rfl ⟨by rw [hRm]; decide, by rw [hRm]; decide⟩ (Nat.le_of_ble_eq_true rfl) rfl (fun v h_11 gp11 => ?_) (fun E h9 hx => hx.elim)
              obtain ⟨rfl, he_gp11⟩ := gp11
              rw [he_gp11]
              show V G F _ _ _ 628 [some (.ref sb), some (.ref (A 0)), some (.ref (qo q)), some (.int (nI i)), some (.int x4), some (.int (nI (gT σ))), some (.int (gLn σ (gT σ))), some (.int (gTo σ (gT σ))), some (.int (unT σ (gT σ))), some (.ref og), some (.ref mny), some (.int (anyT σ (gT σ))), some (.int (sumT (hb σ) (p + 1))), some (.int (sumT (atR σ) (p + 1))), some (.int (rdT σ (p + 1))), some (.int (nI p)), some (.int (hb σ p)), some (.int (nI (aln σ p))), some (.int (nI (dct σ p 8))), none, none, none, none] [.int (nI (pmax (hb σ) 7)), .int (nI p)] h6
              rw [← er]
              refine V.icmpN_lt (i := p) (j := rr) hF (off := 67) (tgt := 695) (by decide +kernel) (by decide) (by omega) (by omega) (fun z4 => ?_) (fun z4 => ?_)
              · have := hfst z4
                rw [z3] at this
                omega
              · skip
                exact along
      have er1 : rdT σ (p + 1) = (if rdT σ p = 0 then (if aln σ p = 0 then 0 else 1) else 1) := rfl
      rw [er1] at rest
      refine V.if_ne hF (off := 8) (tgt := 578) (by decide +kernel) (by decide) (fun z2 => ?_) (fun z2 => ?_)
      · rw [if_neg z2] at rest
        refine V.run hF [(.iconst 1, 1, .int 1), (.goto 4, 3, .null), (.istore 14, 2, .null)] (pc' := 585) (L' := [some (.ref sb), some (.ref (A 0)), some (.ref (qo q)), some (.int (nI i)), some (.int x4), some (.int (nI (gT σ))), some (.int (gLn σ (gT σ))), some (.int (gTo σ (gT σ))), some (.int (unT σ (gT σ))), some (.ref og), some (.ref mny), some (.int (anyT σ (gT σ))), some (.int (sumT (hb σ) p + hb σ p)), some (.int (sumT (atR σ) p + atR σ p)), some (.int 1), some (.int (nI p)), some (.int (hb σ p)), some (.int (nI (aln σ p))), some (.int (nI (dct σ p 8))), none, none, none, none]) (st' := []) (by decide +kernel) rfl ?_
        exact rest
      · skip
        rw [if_pos z2] at rest
        refine V.run hF [(.iload 17, 2, .null)] (pc' := 575) (L' := [some (.ref sb), some (.ref (A 0)), some (.ref (qo q)), some (.int (nI i)), some (.int x4), some (.int (nI (gT σ))), some (.int (gLn σ (gT σ))), some (.int (gTo σ (gT σ))), some (.int (unT σ (gT σ))), some (.ref og), some (.ref mny), some (.int (anyT σ (gT σ))), some (.int (sumT (hb σ) p + hb σ p)), some (.int (sumT (atR σ) p + atR σ p)), some (.int (rdT σ p)), some (.int (nI p)), some (.int (hb σ p)), some (.int (nI (aln σ p))), some (.int (nI (dct σ p 8))), none, none, none, none]) (st' := [.int (nI (aln σ p))]) (by decide +kernel) rfl ?_
        refine V.if_le hF (off := 7) (tgt := 582) (by decide +kernel) (by decide) (fun z3 => ?_) (fun z3 => ?_)
        · have na : aln σ p = 0 := Classical.byContradiction fun w => by
            rw [Int32.le_iff_toInt_le, t_0, nI_toInt (by omega)] at z3
            omega
          rw [if_pos na] at rest
          refine V.run hF [(.iconst 0, 1, .int 0), (.istore 14, 2, .null)] (pc' := 585) (L' := [some (.ref sb), some (.ref (A 0)), some (.ref (qo q)), some (.int (nI i)), some (.int x4), some (.int (nI (gT σ))), some (.int (gLn σ (gT σ))), some (.int (gTo σ (gT σ))), some (.int (unT σ (gT σ))), some (.ref og), some (.ref mny), some (.int (anyT σ (gT σ))), some (.int (sumT (hb σ) p + hb σ p)), some (.int (sumT (atR σ) p + atR σ p)), some (.int 0), some (.int (nI p)), some (.int (hb σ p)), some (.int (nI (aln σ p))), some (.int (nI (dct σ p 8))), none, none, none, none]) (st' := []) (by decide +kernel) rfl ?_
          exact rest
        · skip
          have na : ¬ aln σ p = 0 := fun w => z3 (by rw [w]; decide +kernel)
          rw [if_neg na] at rest
          refine V.run hF [(.iconst 1, 1, .int 1), (.goto 4, 3, .null), (.istore 14, 2, .null)] (pc' := 585) (L' := [some (.ref sb), some (.ref (A 0)), some (.ref (qo q)), some (.int (nI i)), some (.int x4), some (.int (nI (gT σ))), some (.int (gLn σ (gT σ))), some (.int (gTo σ (gT σ))), some (.int (unT σ (gT σ))), some (.ref og), some (.ref mny), some (.int (anyT σ (gT σ))), some (.int (sumT (hb σ) p + hb σ p)), some (.int (sumT (atR σ) p + atR σ p)), some (.int 1), some (.int (nI p)), some (.int (hb σ p)), some (.int (nI (aln σ p))), some (.int (nI (dct σ p 8))), none, none, none, none]) (st' := []) (by decide +kernel) rfl ?_
          exact rest
end Ly
