/-! ===== the law's round: sums compared; a year ===== -/
section Lz
variable {G : Gt} {F : Ft} {Q : State → Prop} {A : Nat → Nat} {q : QA} {σ : Sg} {S : Int} {og mny sb i : Nat} {x4 : Int32} {ml : Nat}
theorem goN_1 : goN 1 σ = gon σ (gT σ) := Int32.zero_add _
theorem gT_1 : gT (sPass σ 1) = gT σ := rfl
theorem gn_1 {t : Nat} (ht : t < gT σ) : gn (sPass σ 1) t = if mlt σ t then 0 else gn σ t := by
  show (if t < gT σ ∧ mlt σ t then 0 else gn σ t) = _
  by_cases z : mlt σ t
  · rw [if_pos ⟨ht, z⟩, if_pos z]
  · rw [if_neg (fun y => z y.2), if_neg z]
theorem gon_s {t : Nat} : gon σ (t + 1) = gon σ t + (if mlt σ t then nI (gn σ t) else 0) := rfl
set_option maxHeartbeats 8000000 in
/-- what went in the year -/
theorem law_gone (hG : GOk G) (hF : Ok G F RL cL_law 23 (some .boolean)) (hRm : fR F = room_1) (hO : SO A q) (hR : RI σ) (hA : Am σ S) (hS6 : S ≤ 1000000) (h0 : 0 ≤ S) (hy : gy σ ≤ 100000) (h8 : gT σ ≤ 8) {K1 K2 : Nat} {hh : Hp} {P : PS} {r : Nat → Int32} {q' : QA} (eq' : qo q' = qo q) (hO' : SO A q') (hC : CS hh A (sPass σ 1) P r) (hSm : SM hh q' (sPass σ 1)) {fm bm : Nat → Int32} (hmn : hh mny = some (.inl (0, gT σ, .inl fm))) (hml : hh ml = some (.inl (1, gT σ, .inl bm))) (hfm : ∀ x, x < gT σ → fm x = nI (gn σ x)) (hbm : ∀ x, x < gT σ → bm x = tf (mlt σ x))
    (kend : ∀ (hh : Hp) (L6 L7 L8 L9 L10 L11 L12 L13 L14 L15 L16 L17 L18 L19 L20 L21 L22 : Option Value), IV S (gy σ + 1) (A 0) (qo q) hh → V G F Q K1 K2 995 [some (.ref sb), some (.ref (A 0)), some (.ref (qo q)), some (.int (nI i)), some (.int x4), some (.int (nI (gT σ))), L6, L7, L8, L9, L10, L11, L12, L13, L14, L15, L16, L17, L18, L19, L20, L21, L22] [] hh) :
    ∀ t, t ≤ gT σ → ∀ (L12 L13 L14 : Option Value), V G F Q (K1 + 2 * (8 - t)) (K2 + 12 * (8 - t)) 867 [some (.ref sb), some (.ref (A 0)), some (.ref (qo q)), some (.int (nI i)), some (.int x4), some (.int (nI (gT σ))), some (.int (gLn σ (gT σ))), some (.int (gTo σ (gT σ))), some (.int (unT σ (gT σ))), some (.ref og), some (.ref mny), some (.int (anyT σ (gT σ))), L12, L13, L14, some (.int (nI (gy σ))), some (.int (gme σ)), some (.int (gMI σ (nI 1) (gT σ))), some (.ref ml), some (.int (gde σ)), some (.int (goN 1 σ)), some (.int (gon σ t)), some (.int (nI t))] [] hh := by
  have gA := hC.2.2.1
  have hI : IV S (gy σ + 1) (A 0) (qo q) hh := ⟨A, q', sPass σ 1, P, r, rfl, eq', hC, hSm, hO', hR.ps, hA.ps h0, Nat.le_refl _⟩
  refine lp_up (gT σ) fun t ht th L12 L13 L14 => ?_
  refine V.loc (L' := [some (.ref sb), some (.ref (A 0)), some (.ref (qo q)), some (.int (nI i)), some (.int x4), some (.int (nI (gT σ))), some (.int (gLn σ (gT σ))), some (.int (gTo σ (gT σ))), some (.int (unT σ (gT σ))), some (.ref og), some (.ref mny), some (.int (anyT σ (gT σ))), none, none, none, some (.int (nI (gy σ))), some (.int (gme σ)), some (.int (gMI σ (nI 1) (gT σ))), some (.ref ml), some (.int (gde σ)), some (.int (goN 1 σ)), some (.int (gon σ t)), some (.int (nI t))]) (fun j v hv => by
    match j, hv with
    | 0, hv => exact hv
    | 1, hv => exact hv
    | 2, hv => exact hv
    | 3, hv => exact hv
    | 4, hv => exact hv
    | 5, hv => exact hv
    | 6, hv => exact hv
    | 7, hv => exact hv
    | 8, hv => exact hv
    | 9, hv => exact hv
    | 10, hv => exact hv
    | 11, hv => exact hv
    | 12, hv => cases hv
    | 13, hv => cases hv
    | 14, hv => cases hv
    | 15, hv => exact hv
    | 16, hv => exact hv
    | 17, hv => exact hv
    | 18, hv => exact hv
    | 19, hv => exact hv
    | 20, hv => exact hv
    | 21, hv => exact hv
    | 22, hv => exact hv
    | zz + 23, hv => cases hv) ?_
  refine V.run hF [(.iload 22, 2, .null), (.iload 5, 2, .null)] (pc' := 871) (L' := [some (.ref sb), some (.ref (A 0)), some (.ref (qo q)), some (.int (nI i)), some (.int x4), some (.int (nI (gT σ))), some (.int (gLn σ (gT σ))), some (.int (gTo σ (gT σ))), some (.int (unT σ (gT σ))), some (.ref og), some (.ref mny), some (.int (anyT σ (gT σ))), none, none, none, some (.int (nI (gy σ))), some (.int (gme σ)), some (.int (gMI σ (nI 1) (gT σ))), some (.ref ml), some (.int (gde σ)), some (.int (goN 1 σ)), some (.int (gon σ t)), some (.int (nI t))]) (st' := [.int (nI (gT σ)), .int (nI t)]) (by decide +kernel) rfl ?_
  refine V.icmpN_ge (i := t) (j := gT σ) hF (off := 59) (tgt := 930) (by decide +kernel) (by decide) (by omega) (by omega) (fun z1 => ?_) (fun z1 => ?_)
  · have e8 : t = gT σ := by omega
    rw [e8]
    refine V.run hF [(.iload 20, 2, .null), (.iload 21, 2, .null)] (pc' := 934) (L' := [some (.ref sb), some (.ref (A 0)), some (.ref (qo q)), some (.int (nI i)), some (.int x4), some (.int (nI (gT σ))), some (.int (gLn σ (gT σ))), some (.int (gTo σ (gT σ))), some (.int (unT σ (gT σ))), some (.ref og), some (.ref mny), some (.int (anyT σ (gT σ))), none, none, none, some (.int (nI (gy σ))), some (.int (gme σ)), some (.int (gMI σ (nI 1) (gT σ))), some (.ref ml), some (.int (gde σ)), some (.int (goN 1 σ)), some (.int (gon σ (gT σ))), some (.int (nI (gT σ)))]) (st' := [.int (gon σ (gT σ)), .int (goN 1 σ)]) (by decide +kernel) rfl ?_
    refine V.icmp_ne hF (off := 59) (tgt := 993) (by decide +kernel) (by decide) (fun b1 => ?_) (fun b1 => ?_)
    · exact absurd goN_1 b1
    · skip
      refine V.run hF [(.aload_n 1, 1, .null)] (pc' := 938) (L' := [some (.ref sb), some (.ref (A 0)), some (.ref (qo q)), some (.int (nI i)), some (.int x4), some (.int (nI (gT σ))), some (.int (gLn σ (gT σ))), some (.int (gTo σ (gT σ))), some (.int (unT σ (gT σ))), some (.ref og), some (.ref mny), some (.int (anyT σ (gT σ))), none, none, none, some (.int (nI (gy σ))), some (.int (gme σ)), some (.int (gMI σ (nI 1) (gT σ))), some (.ref ml), some (.int (gde σ)), some (.int (goN 1 σ)), some (.int (gon σ (gT σ))), some (.int (nI (gT σ)))]) (st' := [.ref (A 0)]) (by decide +kernel) rfl ?_
      refine V.less (kc' := K1 + 0) (ks' := K2 + 0) (by omega) (by omega) ?_
      refine V.callV (As := []) (st := []) hG hF k_RL_167 (by decide +kernel) (c_X3_melted hG hC) gA rfl rfl ⟨by rw [hRm]; decide, by rw [hRm]; decide⟩ (Nat.le_of_ble_eq_true rfl) rfl (fun v h_1 gp1 => ?_) (fun E h9 hx => hx.elim)
      obtain ⟨rfl, he_gp1⟩ := gp1
      rw [he_gp1]
      show V G F _ _ _ 941 [some (.ref sb), some (.ref (A 0)), some (.ref (qo q)), some (.int (nI i)), some (.int x4), some (.int (nI (gT σ))), some (.int (gLn σ (gT σ))), some (.int (gTo σ (gT σ))), some (.int (unT σ (gT σ))), some (.ref og), some (.ref mny), some (.int (anyT σ (gT σ))), none, none, none, some (.int (nI (gy σ))), some (.int (gme σ)), some (.int (gMI σ (nI 1) (gT σ))), some (.ref ml), some (.int (gde σ)), some (.int (goN 1 σ)), some (.int (gon σ (gT σ))), some (.int (nI (gT σ)))] [.int (gme (sPass σ 1))] hh
      refine V.run hF [(.iload 16, 2, .null), (.iload 20, 2, .null), (.iadd, 1, .null)] (pc' := 946) (L' := [some (.ref sb), some (.ref (A 0)), some (.ref (qo q)), some (.int (nI i)), some (.int x4), some (.int (nI (gT σ))), some (.int (gLn σ (gT σ))), some (.int (gTo σ (gT σ))), some (.int (unT σ (gT σ))), some (.ref og), some (.ref mny), some (.int (anyT σ (gT σ))), none, none, none, some (.int (nI (gy σ))), some (.int (gme σ)), some (.int (gMI σ (nI 1) (gT σ))), some (.ref ml), some (.int (gde σ)), some (.int (goN 1 σ)), some (.int (gon σ (gT σ))), some (.int (nI (gT σ)))]) (st' := [.int (gme σ + goN 1 σ), .int (gme (sPass σ 1))]) (by decide +kernel) rfl ?_
      refine V.icmp_ne hF (off := 47) (tgt := 993) (by decide +kernel) (by decide) (fun b1 => ?_) (fun b1 => ?_)
      · exact absurd rfl b1
      · skip
        refine V.run hF [(.aload_n 1, 1, .null)] (pc' := 950) (L' := [some (.ref sb), some (.ref (A 0)), some (.ref (qo q)), some (.int (nI i)), some (.int x4), some (.int (nI (gT σ))), some (.int (gLn σ (gT σ))), some (.int (gTo σ (gT σ))), some (.int (unT σ (gT σ))), some (.ref og), some (.ref mny), some (.int (anyT σ (gT σ))), none, none, none, some (.int (nI (gy σ))), some (.int (gme σ)), some (.int (gMI σ (nI 1) (gT σ))), some (.ref ml), some (.int (gde σ)), some (.int (goN 1 σ)), some (.int (gon σ (gT σ))), some (.int (nI (gT σ)))]) (st' := [.ref (A 0)]) (by decide +kernel) rfl ?_
        refine V.less (kc' := K1 + 0) (ks' := K2 + 0) (by omega) (by omega) ?_
        refine V.callV (As := []) (st := []) hG hF k_RL_153 (by decide +kernel) (c_X3_total hG hC) gA rfl rfl ⟨by rw [hRm]; decide, by rw [hRm]; decide⟩ (Nat.le_of_ble_eq_true rfl) rfl (fun v h_2 gp2 => ?_) (fun E h9 hx => hx.elim)
        obtain ⟨rfl, he_gp2⟩ := gp2
        rw [he_gp2]
        show V G F _ _ _ 953 [some (.ref sb), some (.ref (A 0)), some (.ref (qo q)), some (.int (nI i)), some (.int x4), some (.int (nI (gT σ))), some (.int (gLn σ (gT σ))), some (.int (gTo σ (gT σ))), some (.int (unT σ (gT σ))), some (.ref og), some (.ref mny), some (.int (anyT σ (gT σ))), none, none, none, some (.int (nI (gy σ))), some (.int (gme σ)), some (.int (gMI σ (nI 1) (gT σ))), some (.ref ml), some (.int (gde σ)), some (.int (goN 1 σ)), some (.int (gon σ (gT σ))), some (.int (nI (gT σ)))] [.int (gTo (sPass σ 1) (gT (sPass σ 1)))] hh
        refine V.run hF [(.iload 7, 2, .null), (.iload 17, 2, .null), (.isub, 1, .null)] (pc' := 958) (L' := [some (.ref sb), some (.ref (A 0)), some (.ref (qo q)), some (.int (nI i)), some (.int x4), some (.int (nI (gT σ))), some (.int (gLn σ (gT σ))), some (.int (gTo σ (gT σ))), some (.int (unT σ (gT σ))), some (.ref og), some (.ref mny), some (.int (anyT σ (gT σ))), none, none, none, some (.int (nI (gy σ))), some (.int (gme σ)), some (.int (gMI σ (nI 1) (gT σ))), some (.ref ml), some (.int (gde σ)), some (.int (goN 1 σ)), some (.int (gon σ (gT σ))), some (.int (nI (gT σ)))]) (st' := [.int (gTo σ (gT σ) - gMI σ (nI 1) (gT σ)), .int (gTo (sPass σ 1) (gT (sPass σ 1)))]) (by decide +kernel) rfl ?_
        refine V.icmp_ne hF (off := 35) (tgt := 993) (by decide +kernel) (by decide) (fun b1 => ?_) (fun b1 => ?_)
        · exact absurd (yr_total (gT σ) (Nat.le_refl _)) b1
        · skip
          refine V.run hF [(.aload_n 1, 1, .null)] (pc' := 962) (L' := [some (.ref sb), some (.ref (A 0)), some (.ref (qo q)), some (.int (nI i)), some (.int x4), some (.int (nI (gT σ))), some (.int (gLn σ (gT σ))), some (.int (gTo σ (gT σ))), some (.int (unT σ (gT σ))), some (.ref og), some (.ref mny), some (.int (anyT σ (gT σ))), none, none, none, some (.int (nI (gy σ))), some (.int (gme σ)), some (.int (gMI σ (nI 1) (gT σ))), some (.ref ml), some (.int (gde σ)), some (.int (goN 1 σ)), some (.int (gon σ (gT σ))), some (.int (nI (gT σ)))]) (st' := [.ref (A 0)]) (by decide +kernel) rfl ?_
          refine V.less (kc' := K1 + 0) (ks' := K2 + 0) (by omega) (by omega) ?_
          refine V.callV (As := []) (st := []) hG hF k_RL_151 (by decide +kernel) (c_X3_lines hG hC) gA rfl rfl ⟨by rw [hRm]; decide, by rw [hRm]; decide⟩ (Nat.le_of_ble_eq_true rfl) rfl (fun v h_3 gp3 => ?_) (fun E h9 hx => hx.elim)
          obtain ⟨rfl, he_gp3⟩ := gp3
          rw [he_gp3]
          show V G F _ _ _ 965 [some (.ref sb), some (.ref (A 0)), some (.ref (qo q)), some (.int (nI i)), some (.int x4), some (.int (nI (gT σ))), some (.int (gLn σ (gT σ))), some (.int (gTo σ (gT σ))), some (.int (unT σ (gT σ))), some (.ref og), some (.ref mny), some (.int (anyT σ (gT σ))), none, none, none, some (.int (nI (gy σ))), some (.int (gme σ)), some (.int (gMI σ (nI 1) (gT σ))), some (.ref ml), some (.int (gde σ)), some (.int (goN 1 σ)), some (.int (gon σ (gT σ))), some (.int (nI (gT σ)))] [.int (gLn (sPass σ 1) (gT (sPass σ 1)))] hh
          refine V.run hF [(.iload 6, 2, .null), (.iload 20, 2, .null), (.isub, 1, .null)] (pc' := 970) (L' := [some (.ref sb), some (.ref (A 0)), some (.ref (qo q)), some (.int (nI i)), some (.int x4), some (.int (nI (gT σ))), some (.int (gLn σ (gT σ))), some (.int (gTo σ (gT σ))), some (.int (unT σ (gT σ))), some (.ref og), some (.ref mny), some (.int (anyT σ (gT σ))), none, none, none, some (.int (nI (gy σ))), some (.int (gme σ)), some (.int (gMI σ (nI 1) (gT σ))), some (.ref ml), some (.int (gde σ)), some (.int (goN 1 σ)), some (.int (gon σ (gT σ))), some (.int (nI (gT σ)))]) (st' := [.int (gLn σ (gT σ) - goN 1 σ), .int (gLn (sPass σ 1) (gT (sPass σ 1)))]) (by decide +kernel) rfl ?_
          refine V.icmp_ne hF (off := 23) (tgt := 993) (by decide +kernel) (by decide) (fun b1 => ?_) (fun b1 => ?_)
          · exact absurd (by rw [goN_1]; exact yr_lines (gT σ) (Nat.le_refl _)) b1
          · skip
            refine V.run hF [(.aload_n 1, 1, .null)] (pc' := 974) (L' := [some (.ref sb), some (.ref (A 0)), some (.ref (qo q)), some (.int (nI i)), some (.int x4), some (.int (nI (gT σ))), some (.int (gLn σ (gT σ))), some (.int (gTo σ (gT σ))), some (.int (unT σ (gT σ))), some (.ref og), some (.ref mny), some (.int (anyT σ (gT σ))), none, none, none, some (.int (nI (gy σ))), some (.int (gme σ)), some (.int (gMI σ (nI 1) (gT σ))), some (.ref ml), some (.int (gde σ)), some (.int (goN 1 σ)), some (.int (gon σ (gT σ))), some (.int (nI (gT σ)))]) (st' := [.ref (A 0)]) (by decide +kernel) rfl ?_
            refine V.less (kc' := K1 + 0) (ks' := K2 + 0) (by omega) (by omega) ?_
            refine V.callV (As := []) (st := []) hG hF k_RL_164 (by decide +kernel) (c_X3_year hG hC) gA rfl rfl ⟨by rw [hRm]; decide, by rw [hRm]; decide⟩ (Nat.le_of_ble_eq_true rfl) rfl (fun v h_4 gp4 => ?_) (fun E h9 hx => hx.elim)
            obtain ⟨rfl, he_gp4⟩ := gp4
            rw [he_gp4]
            show V G F _ _ _ 977 [some (.ref sb), some (.ref (A 0)), some (.ref (qo q)), some (.int (nI i)), some (.int x4), some (.int (nI (gT σ))), some (.int (gLn σ (gT σ))), some (.int (gTo σ (gT σ))), some (.int (unT σ (gT σ))), some (.ref og), some (.ref mny), some (.int (anyT σ (gT σ))), none, none, none, some (.int (nI (gy σ))), some (.int (gme σ)), some (.int (gMI σ (nI 1) (gT σ))), some (.ref ml), some (.int (gde σ)), some (.int (goN 1 σ)), some (.int (gon σ (gT σ))), some (.int (nI (gT σ)))] [.int (nI (gy (sPass σ 1)))] hh
            refine V.run hF [(.iload 15, 2, .null), (.iconst 1, 1, .int 1), (.iadd, 1, .null)] (pc' := 981) (L' := [some (.ref sb), some (.ref (A 0)), some (.ref (qo q)), some (.int (nI i)), some (.int x4), some (.int (nI (gT σ))), some (.int (gLn σ (gT σ))), some (.int (gTo σ (gT σ))), some (.int (unT σ (gT σ))), some (.ref og), some (.ref mny), some (.int (anyT σ (gT σ))), none, none, none, some (.int (nI (gy σ))), some (.int (gme σ)), some (.int (gMI σ (nI 1) (gT σ))), some (.ref ml), some (.int (gde σ)), some (.int (goN 1 σ)), some (.int (gon σ (gT σ))), some (.int (nI (gT σ)))]) (st' := [.int (nI (gy σ) + 1), .int (nI (gy (sPass σ 1)))]) (by decide +kernel) rfl ?_
            refine V.icmp_ne hF (off := 12) (tgt := 993) (by decide +kernel) (by decide) (fun b1 => ?_) (fun b1 => ?_)
            · exact absurd (show nI (gy σ + 1) = nI (gy σ) + 1 from (nI_1 _).symm) b1
            · skip
              refine V.run hF [(.aload_n 1, 1, .null)] (pc' := 985) (L' := [some (.ref sb), some (.ref (A 0)), some (.ref (qo q)), some (.int (nI i)), some (.int x4), some (.int (nI (gT σ))), some (.int (gLn σ (gT σ))), some (.int (gTo σ (gT σ))), some (.int (unT σ (gT σ))), some (.ref og), some (.ref mny), some (.int (anyT σ (gT σ))), none, none, none, some (.int (nI (gy σ))), some (.int (gme σ)), some (.int (gMI σ (nI 1) (gT σ))), some (.ref ml), some (.int (gde σ)), some (.int (goN 1 σ)), some (.int (gon σ (gT σ))), some (.int (nI (gT σ)))]) (st' := [.ref (A 0)]) (by decide +kernel) rfl ?_
              refine V.less (kc' := K1 + 0) (ks' := K2 + 0) (by omega) (by omega) ?_
              refine V.callV (As := []) (st := []) hG hF k_RL_173 (by decide +kernel) (c_X3_denied hG hC) gA rfl rfl ⟨by rw [hRm]; decide, by rw [hRm]; decide⟩ (Nat.le_of_ble_eq_true rfl) rfl (fun v h_5 gp5 => ?_) (fun E h9 hx => hx.elim)
              obtain ⟨rfl, he_gp5⟩ := gp5
              rw [he_gp5]
              show V G F _ _ _ 988 [some (.ref sb), some (.ref (A 0)), some (.ref (qo q)), some (.int (nI i)), some (.int x4), some (.int (nI (gT σ))), some (.int (gLn σ (gT σ))), some (.int (gTo σ (gT σ))), some (.int (unT σ (gT σ))), some (.ref og), some (.ref mny), some (.int (anyT σ (gT σ))), none, none, none, some (.int (nI (gy σ))), some (.int (gme σ)), some (.int (gMI σ (nI 1) (gT σ))), some (.ref ml), some (.int (gde σ)), some (.int (goN 1 σ)), some (.int (gon σ (gT σ))), some (.int (nI (gT σ)))] [.int (gde (sPass σ 1))] hh
              refine V.run hF [(.iload 19, 2, .null)] (pc' := 990) (L' := [some (.ref sb), some (.ref (A 0)), some (.ref (qo q)), some (.int (nI i)), some (.int x4), some (.int (nI (gT σ))), some (.int (gLn σ (gT σ))), some (.int (gTo σ (gT σ))), some (.int (unT σ (gT σ))), some (.ref og), some (.ref mny), some (.int (anyT σ (gT σ))), none, none, none, some (.int (nI (gy σ))), some (.int (gme σ)), some (.int (gMI σ (nI 1) (gT σ))), some (.ref ml), some (.int (gde σ)), some (.int (goN 1 σ)), some (.int (gon σ (gT σ))), some (.int (nI (gT σ)))]) (st' := [.int (gde σ), .int (gde (sPass σ 1))]) (by decide +kernel) rfl ?_
              refine V.icmp_eq hF (off := 5) (tgt := 995) (by decide +kernel) (by decide) (fun b1 => ?_) (fun b1 => ?_)
              · exact kend hh _ _ _ _ _ _ _ _ _ _ _ _ _ _ _ _ _ hI
              · skip
                exact absurd rfl b1
  · skip
    have h12 := hR.2.2.2 t z1
    have gs := gon_s (σ := σ) (t := t)
    have gn1 := gn_1 z1
    refine V.run hF [(.iload 21, 2, .null), (.aload 18, 2, .null), (.iload 22, 2, .null)] (pc' := 880) (L' := [some (.ref sb), some (.ref (A 0)), some (.ref (qo q)), some (.int (nI i)), some (.int x4), some (.int (nI (gT σ))), some (.int (gLn σ (gT σ))), some (.int (gTo σ (gT σ))), some (.int (unT σ (gT σ))), some (.ref og), some (.ref mny), some (.int (anyT σ (gT σ))), none, none, none, some (.int (nI (gy σ))), some (.int (gme σ)), some (.int (gMI σ (nI 1) (gT σ))), some (.ref ml), some (.int (gde σ)), some (.int (goN 1 σ)), some (.int (gon σ t)), some (.int (nI t))]) (st' := [.int (nI t), .ref ml, .int (gon σ t)]) (by decide +kernel) rfl ?_
    refine V.zaldN (j := t) hG hF (by decide +kernel) hml (by omega) (by first | decide | omega) ?_
    rw [hbm t z1]
    by_cases hm : mlt σ t
    · rw [if_pos hm] at gs gn1
      rw [tf, if_pos hm]
      refine V.if_eq hF (off := 11) (tgt := 892) (by decide +kernel) (by decide) (fun b1 => ?_) (fun b1 => ?_)
      · exact absurd b1 (by decide +kernel)
      · skip
        refine V.run hF [(.aload 10, 2, .null), (.iload 22, 2, .null)] (pc' := 888) (L' := [some (.ref sb), some (.ref (A 0)), some (.ref (qo q)), some (.int (nI i)), some (.int x4), some (.int (nI (gT σ))), some (.int (gLn σ (gT σ))), some (.int (gTo σ (gT σ))), some (.int (unT σ (gT σ))), some (.ref og), some (.ref mny), some (.int (anyT σ (gT σ))), none, none, none, some (.int (nI (gy σ))), some (.int (gme σ)), some (.int (gMI σ (nI 1) (gT σ))), some (.ref ml), some (.int (gde σ)), some (.int (goN 1 σ)), some (.int (gon σ t)), some (.int (nI t))]) (st' := [.int (nI t), .ref mny, .int (gon σ t)]) (by decide +kernel) rfl ?_
        refine V.ialdN (j := t) hG hF (by decide +kernel) hmn (by omega) (by first | decide | omega) ?_
        rw [hfm t z1]
        refine V.run hF [(.goto 4, 3, .null), (.iadd, 1, .null), (.istore 21, 2, .null), (.aload_n 1, 1, .null), (.iload 22, 2, .null)] (pc' := 899) (L' := [some (.ref sb), some (.ref (A 0)), some (.ref (qo q)), some (.int (nI i)), some (.int x4), some (.int (nI (gT σ))), some (.int (gLn σ (gT σ))), some (.int (gTo σ (gT σ))), some (.int (unT σ (gT σ))), some (.ref og), some (.ref mny), some (.int (anyT σ (gT σ))), none, none, none, some (.int (nI (gy σ))), some (.int (gme σ)), some (.int (gMI σ (nI 1) (gT σ))), some (.ref ml), some (.int (gde σ)), some (.int (goN 1 σ)), some (.int (gon σ t + nI (gn σ t))), some (.int (nI t))]) (st' := [.int (nI t), .ref (A 0)]) (by decide +kernel) rfl ?_
        refine V.less (kc' := (K1 + 2 * (7 - t)) + 2) (ks' := (K2 + 12 * (7 - t)) + 12) (by omega) (by omega) ?_
        refine V.callV (As := [.int (nI t)]) (st := []) hG hF k_RL_105 (by decide +kernel) (hp_linesOf hG hC z1) gA rfl rfl ⟨by rw [hRm]; decide, by rw [hRm]; decide⟩ (Nat.le_of_ble_eq_true rfl) rfl (fun v h_6 gp6 => ?_) (fun E h9 hx => hx.elim)
        obtain ⟨rfl, he_gp6⟩ := gp6
        rw [he_gp6]
        show V G F _ _ _ 902 [some (.ref sb), some (.ref (A 0)), some (.ref (qo q)), some (.int (nI i)), some (.int x4), some (.int (nI (gT σ))), some (.int (gLn σ (gT σ))), some (.int (gTo σ (gT σ))), some (.int (unT σ (gT σ))), some (.ref og), some (.ref mny), some (.int (anyT σ (gT σ))), none, none, none, some (.int (nI (gy σ))), some (.int (gme σ)), some (.int (gMI σ (nI 1) (gT σ))), some (.ref ml), some (.int (gde σ)), some (.int (goN 1 σ)), some (.int (gon σ t + nI (gn σ t))), some (.int (nI t))] [.int (nI (gn (sPass σ 1) t))] hh
        rw [gn1]
        refine V.run hF [(.aload 18, 2, .null), (.iload 22, 2, .null)] (pc' := 906) (L' := [some (.ref sb), some (.ref (A 0)), some (.ref (qo q)), some (.int (nI i)), some (.int x4), some (.int (nI (gT σ))), some (.int (gLn σ (gT σ))), some (.int (gTo σ (gT σ))), some (.int (unT σ (gT σ))), some (.ref og), some (.ref mny), some (.int (anyT σ (gT σ))), none, none, none, some (.int (nI (gy σ))), some (.int (gme σ)), some (.int (gMI σ (nI 1) (gT σ))), some (.ref ml), some (.int (gde σ)), some (.int (goN 1 σ)), some (.int (gon σ t + nI (gn σ t))), some (.int (nI t))]) (st' := [.int (nI t), .ref ml, .int (nI 0)]) (by decide +kernel) rfl ?_
        refine V.zaldN (j := t) hG hF (by decide +kernel) hml (by omega) (by first | decide | omega) ?_
        rw [hbm t z1, tf, if_pos hm]
        refine V.if_eq hF (off := 7) (tgt := 914) (by decide +kernel) (by decide) (fun b2 => ?_) (fun b2 => ?_)
        · exact absurd b2 (by decide +kernel)
        · skip
          refine V.run hF [(.iconst 0, 1, .int (nI 0)), (.goto 8, 3, .null)] (pc' := 919) (L' := [some (.ref sb), some (.ref (A 0)), some (.ref (qo q)), some (.int (nI i)), some (.int x4), some (.int (nI (gT σ))), some (.int (gLn σ (gT σ))), some (.int (gTo σ (gT σ))), some (.int (unT σ (gT σ))), some (.ref og), some (.ref mny), some (.int (anyT σ (gT σ))), none, none, none, some (.int (nI (gy σ))), some (.int (gme σ)), some (.int (gMI σ (nI 1) (gT σ))), some (.ref ml), some (.int (gde σ)), some (.int (goN 1 σ)), some (.int (gon σ t + nI (gn σ t))), some (.int (nI t))]) (st' := [.int (nI 0), .int (nI 0)]) (by decide +kernel) rfl ?_
          refine V.icmp_eq hF (off := 5) (tgt := 924) (by decide +kernel) (by decide) (fun b3 => ?_) (fun b3 => ?_)
          · have k := th z1 none none none
            rw [gs] at k
            refine V.run hF [(.iinc 22 1, 3, .int 1), (.goto (-60), 3, .null)] (pc' := 867) (L' := [some (.ref sb), some (.ref (A 0)), some (.ref (qo q)), some (.int (nI i)), some (.int x4), some (.int (nI (gT σ))), some (.int (gLn σ (gT σ))), some (.int (gTo σ (gT σ))), some (.int (unT σ (gT σ))), some (.ref og), some (.ref mny), some (.int (anyT σ (gT σ))), none, none, none, some (.int (nI (gy σ))), some (.int (gme σ)), some (.int (gMI σ (nI 1) (gT σ))), some (.ref ml), some (.int (gde σ)), some (.int (goN 1 σ)), some (.int (gon σ t + nI (gn σ t))), some (.int ((nI t) + 1))]) (st' := []) (by decide +kernel) rfl ?_
            rw [nI_1 t]
            exact V.less (by omega) (by omega) k
          · skip
            exact absurd rfl b3
    · rw [if_neg hm] at gs gn1
      rw [tf, if_neg hm]
      refine V.if_eq hF (off := 11) (tgt := 892) (by decide +kernel) (by decide) (fun b1 => ?_) (fun b1 => ?_)
      · skip
        refine V.run hF [(.iconst 0, 1, .int 0), (.iadd, 1, .null), (.istore 21, 2, .null), (.aload_n 1, 1, .null), (.iload 22, 2, .null)] (pc' := 899) (L' := [some (.ref sb), some (.ref (A 0)), some (.ref (qo q)), some (.int (nI i)), some (.int x4), some (.int (nI (gT σ))), some (.int (gLn σ (gT σ))), some (.int (gTo σ (gT σ))), some (.int (unT σ (gT σ))), some (.ref og), some (.ref mny), some (.int (anyT σ (gT σ))), none, none, none, some (.int (nI (gy σ))), some (.int (gme σ)), some (.int (gMI σ (nI 1) (gT σ))), some (.ref ml), some (.int (gde σ)), some (.int (goN 1 σ)), some (.int (gon σ t + 0)), some (.int (nI t))]) (st' := [.int (nI t), .ref (A 0)]) (by decide +kernel) rfl ?_
        refine V.less (kc' := (K1 + 2 * (7 - t)) + 2) (ks' := (K2 + 12 * (7 - t)) + 12) (by omega) (by omega) ?_
        refine V.callV (As := [.int (nI t)]) (st := []) hG hF k_RL_105 (by decide +kernel) (hp_linesOf hG hC z1) gA rfl rfl ⟨by rw [hRm]; decide, by rw [hRm]; decide⟩ (Nat.le_of_ble_eq_true rfl) rfl (fun v h_7 gp7 => ?_) (fun E h9 hx => hx.elim)
        obtain ⟨rfl, he_gp7⟩ := gp7
        rw [he_gp7]
        show V G F _ _ _ 902 [some (.ref sb), some (.ref (A 0)), some (.ref (qo q)), some (.int (nI i)), some (.int x4), some (.int (nI (gT σ))), some (.int (gLn σ (gT σ))), some (.int (gTo σ (gT σ))), some (.int (unT σ (gT σ))), some (.ref og), some (.ref mny), some (.int (anyT σ (gT σ))), none, none, none, some (.int (nI (gy σ))), some (.int (gme σ)), some (.int (gMI σ (nI 1) (gT σ))), some (.ref ml), some (.int (gde σ)), some (.int (goN 1 σ)), some (.int (gon σ t + 0)), some (.int (nI t))] [.int (nI (gn (sPass σ 1) t))] hh
        rw [gn1]
        refine V.run hF [(.aload 18, 2, .null), (.iload 22, 2, .null)] (pc' := 906) (L' := [some (.ref sb), some (.ref (A 0)), some (.ref (qo q)), some (.int (nI i)), some (.int x4), some (.int (nI (gT σ))), some (.int (gLn σ (gT σ))), some (.int (gTo σ (gT σ))), some (.int (unT σ (gT σ))), some (.ref og), some (.ref mny), some (.int (anyT σ (gT σ))), none, none, none, some (.int (nI (gy σ))), some (.int (gme σ)), some (.int (gMI σ (nI 1) (gT σ))), some (.ref ml), some (.int (gde σ)), some (.int (goN 1 σ)), some (.int (gon σ t + 0)), some (.int (nI t))]) (st' := [.int (nI t), .ref ml, .int (nI (gn σ t))]) (by decide +kernel) rfl ?_
        refine V.zaldN (j := t) hG hF (by decide +kernel) hml (by omega) (by first | decide | omega) ?_
        rw [hbm t z1, tf, if_neg hm]
        refine V.if_eq hF (off := 7) (tgt := 914) (by decide +kernel) (by decide) (fun b2 => ?_) (fun b2 => ?_)
        · skip
          refine V.run hF [(.aload 10, 2, .null), (.iload 22, 2, .null)] (pc' := 918) (L' := [some (.ref sb), some (.ref (A 0)), some (.ref (qo q)), some (.int (nI i)), some (.int x4), some (.int (nI (gT σ))), some (.int (gLn σ (gT σ))), some (.int (gTo σ (gT σ))), some (.int (unT σ (gT σ))), some (.ref og), some (.ref mny), some (.int (anyT σ (gT σ))), none, none, none, some (.int (nI (gy σ))), some (.int (gme σ)), some (.int (gMI σ (nI 1) (gT σ))), some (.ref ml), some (.int (gde σ)), some (.int (goN 1 σ)), some (.int (gon σ t + 0)), some (.int (nI t))]) (st' := [.int (nI t), .ref mny, .int (nI (gn σ t))]) (by decide +kernel) rfl ?_
          refine V.ialdN (j := t) hG hF (by decide +kernel) hmn (by omega) (by first | decide | omega) ?_
          rw [hfm t z1]
          refine V.icmp_eq hF (off := 5) (tgt := 924) (by decide +kernel) (by decide) (fun b3 => ?_) (fun b3 => ?_)
          · have k := th z1 none none none
            rw [gs] at k
            refine V.run hF [(.iinc 22 1, 3, .int 1), (.goto (-60), 3, .null)] (pc' := 867) (L' := [some (.ref sb), some (.ref (A 0)), some (.ref (qo q)), some (.int (nI i)), some (.int x4), some (.int (nI (gT σ))), some (.int (gLn σ (gT σ))), some (.int (gTo σ (gT σ))), some (.int (unT σ (gT σ))), some (.ref og), some (.ref mny), some (.int (anyT σ (gT σ))), none, none, none, some (.int (nI (gy σ))), some (.int (gme σ)), some (.int (gMI σ (nI 1) (gT σ))), some (.ref ml), some (.int (gde σ)), some (.int (goN 1 σ)), some (.int (gon σ t + 0)), some (.int ((nI t) + 1))]) (st' := []) (by decide +kernel) rfl ?_
            rw [nI_1 t]
            exact V.less (by omega) (by omega) k
          · skip
            exact absurd rfl b3
        · skip
          exact absurd rfl b2
      · skip
        exact absurd rfl b1
set_option maxHeartbeats 8000000 in
/-- which tablets melt within the year -/
theorem law_melts {h9 : Hp} (hG : GOk G) (hF : Ok G F RL cL_law 23 (some .boolean)) (hRm : fR F = room_1) (hO : SO A q) (hR : RI σ) (hA : Am σ S) (hS6 : S ≤ 1000000) (h0 : 0 ≤ S) (hy : gy σ ≤ 100000) (h8 : gT σ ≤ 8) (hml : LO A q σ ml) {K1 K2 : Nat}
    (kend : ∀ (hh : Hp) (bm : Nat → Int32) (L12 L13 L14 L19 L20 L21 L22 : Option Value), WD A q σ hh → hh ml = some (.inl (1, gT σ, .inl bm)) → (∀ x, x < gT σ → bm x = tf (mlt σ x)) → (∀ fm : Nat → Int32, h9 mny = some (.inl (0, gT σ, .inl fm)) → hh mny = some (.inl (0, gT σ, .inl fm))) → V G F Q K1 K2 842 [some (.ref sb), some (.ref (A 0)), some (.ref (qo q)), some (.int (nI i)), some (.int x4), some (.int (nI (gT σ))), some (.int (gLn σ (gT σ))), some (.int (gTo σ (gT σ))), some (.int (unT σ (gT σ))), some (.ref og), some (.ref mny), some (.int (anyT σ (gT σ))), L12, L13, L14, some (.int (nI (gy σ))), some (.int (gme σ)), some (.int (gMI σ (nI 1) (gT σ))), some (.ref ml), L19, L20, L21, L22] [] hh) (hne : mny ≠ ml) :
    ∀ t, t ≤ gT σ → ∀ (hh : Hp) (bm : Nat → Int32) (L12 L13 L14 L20 L21 L22 : Option Value), WD A q σ hh → hh ml = some (.inl (1, gT σ, .inl bm)) → (∀ x, x < t → bm x = tf (mlt σ x)) → (∀ fm : Nat → Int32, h9 mny = some (.inl (0, gT σ, .inl fm)) → hh mny = some (.inl (0, gT σ, .inl fm))) → V G F Q (K1 + 2 * (8 - t)) (K2 + 12 * (8 - t)) 809 [some (.ref sb), some (.ref (A 0)), some (.ref (qo q)), some (.int (nI i)), some (.int x4), some (.int (nI (gT σ))), some (.int (gLn σ (gT σ))), some (.int (gTo σ (gT σ))), some (.int (unT σ (gT σ))), some (.ref og), some (.ref mny), some (.int (anyT σ (gT σ))), L12, L13, L14, some (.int (nI (gy σ))), some (.int (gme σ)), some (.int (gMI σ (nI 1) (gT σ))), some (.ref ml), some (.int (nI t)), L20, L21, L22] [] hh := by
  refine lp_up (gT σ) fun t ht th hh bm L12 L13 L14 L20 L21 L22 hW c1 c2 c3 => ?_
  obtain ⟨P, r, hC, hSm⟩ := id hW
  have gA := hC.2.2.1
  refine V.loc (L' := [some (.ref sb), some (.ref (A 0)), some (.ref (qo q)), some (.int (nI i)), some (.int x4), some (.int (nI (gT σ))), some (.int (gLn σ (gT σ))), some (.int (gTo σ (gT σ))), some (.int (unT σ (gT σ))), some (.ref og), some (.ref mny), some (.int (anyT σ (gT σ))), none, none, none, some (.int (nI (gy σ))), some (.int (gme σ)), some (.int (gMI σ (nI 1) (gT σ))), some (.ref ml), some (.int (nI t)), none, none, none]) (fun j v hv => by
    match j, hv with
    | 0, hv => exact hv
    | 1, hv => exact hv
    | 2, hv => exact hv
    | 3, hv => exact hv
    | 4, hv => exact hv
    | 5, hv => exact hv
    | 6, hv => exact hv
    | 7, hv => exact hv
    | 8, hv => exact hv
    | 9, hv => exact hv
    | 10, hv => exact hv
    | 11, hv => exact hv
    | 12, hv => cases hv
    | 13, hv => cases hv
    | 14, hv => cases hv
    | 15, hv => exact hv
    | 16, hv => exact hv
    | 17, hv => exact hv
    | 18, hv => exact hv
    | 19, hv => exact hv
    | 20, hv => cases hv
    | 21, hv => cases hv
    | 22, hv => cases hv
    | zz + 23, hv => cases hv) ?_
  refine V.run hF [(.iload 19, 2, .null), (.iload 5, 2, .null)] (pc' := 813) (L' := [some (.ref sb), some (.ref (A 0)), some (.ref (qo q)), some (.int (nI i)), some (.int x4), some (.int (nI (gT σ))), some (.int (gLn σ (gT σ))), some (.int (gTo σ (gT σ))), some (.int (unT σ (gT σ))), some (.ref og), some (.ref mny), some (.int (anyT σ (gT σ))), none, none, none, some (.int (nI (gy σ))), some (.int (gme σ)), some (.int (gMI σ (nI 1) (gT σ))), some (.ref ml), some (.int (nI t)), none, none, none]) (st' := [.int (nI (gT σ)), .int (nI t)]) (by decide +kernel) rfl ?_
  refine V.icmpN_ge (i := t) (j := gT σ) hF (off := 29) (tgt := 842) (by decide +kernel) (by decide) (by omega) (by omega) (fun z1 => ?_) (fun z1 => ?_)
  · have e8 : t = gT σ := by omega
    rw [e8] at c2
    exact V.less (by omega) (by omega) (kend hh bm _ _ _ _ _ _ _ hW c1 c2 c3)
  · skip
    have key : ∀ b : Int32, b = tf (mlt σ t) → ∀ x, x < t + 1 → upd bm t b x = tf (mlt σ x) := fun b hb x hx => by
      by_cases e : x = t
      · rw [e, upd_s, hb]
      · rw [upd_n e]
        exact c2 x (by omega)
    refine V.run hF [(.aload 18, 2, .null), (.iload 19, 2, .null), (.aload_n 1, 1, .null), (.iload 19, 2, .null)] (pc' := 823) (L' := [some (.ref sb), some (.ref (A 0)), some (.ref (qo q)), some (.int (nI i)), some (.int x4), some (.int (nI (gT σ))), some (.int (gLn σ (gT σ))), some (.int (gTo σ (gT σ))), some (.int (unT σ (gT σ))), some (.ref og), some (.ref mny), some (.int (anyT σ (gT σ))), none, none, none, some (.int (nI (gy σ))), some (.int (gme σ)), some (.int (gMI σ (nI 1) (gT σ))), some (.ref ml), some (.int (nI t)), none, none, none]) (st' := [.int (nI t), .ref (A 0), .int (nI t), .ref ml]) (by decide +kernel) rfl ?_
    refine V.less (kc' := (K1 + 2 * (7 - t)) + 2) (ks' := (K2 + 12 * (7 - t)) + 12) (by omega) (by omega) ?_
    refine V.callV (As := [.int (nI t)]) (st := [.int (nI t), .ref ml]) hG hF k_RL_114 (by decide +kernel) (hp_years hG hC (by omega) z1) gA rfl rfl ⟨by rw [hRm]; decide, by rw [hRm]; decide⟩ (Nat.le_of_ble_eq_true rfl) rfl (fun v h_1 gp1 => ?_) (fun E h9 hx => hx.elim)
    obtain ⟨rfl, he_gp1⟩ := gp1
    rw [he_gp1]
    show V G F _ _ _ 826 [some (.ref sb), some (.ref (A 0)), some (.ref (qo q)), some (.int (nI i)), some (.int x4), some (.int (nI (gT σ))), some (.int (gLn σ (gT σ))), some (.int (gTo σ (gT σ))), some (.int (unT σ (gT σ))), some (.ref og), some (.ref mny), some (.int (anyT σ (gT σ))), none, none, none, some (.int (nI (gy σ))), some (.int (gme σ)), some (.int (gMI σ (nI 1) (gT σ))), some (.ref ml), some (.int (nI t)), none, none, none] [.int (ytm σ t 10 0), .int (nI t), .ref ml] hh
    refine V.run hF [(.iconst 1, 1, .int (nI 1))] (pc' := 827) (L' := [some (.ref sb), some (.ref (A 0)), some (.ref (qo q)), some (.int (nI i)), some (.int x4), some (.int (nI (gT σ))), some (.int (gLn σ (gT σ))), some (.int (gTo σ (gT σ))), some (.int (unT σ (gT σ))), some (.ref og), some (.ref mny), some (.int (anyT σ (gT σ))), none, none, none, some (.int (nI (gy σ))), some (.int (gme σ)), some (.int (gMI σ (nI 1) (gT σ))), some (.ref ml), some (.int (nI t)), none, none, none]) (st' := [.int (nI 1), .int (ytm σ t 10 0), .int (nI t), .ref ml]) (by decide +kernel) rfl ?_
    refine V.icmp_ne hF (off := 7) (tgt := 834) (by decide +kernel) (by decide) (fun b1 => ?_) (fun b1 => ?_)
    · have hm : ¬ mlt σ t := fun w => b1 (ytm_1.mpr w)
      refine V.run hF [(.iconst 0, 1, .int 0)] (pc' := 835) (L' := [some (.ref sb), some (.ref (A 0)), some (.ref (qo q)), some (.int (nI i)), some (.int x4), some (.int (nI (gT σ))), some (.int (gLn σ (gT σ))), some (.int (gTo σ (gT σ))), some (.int (unT σ (gT σ))), some (.ref og), some (.ref mny), some (.int (anyT σ (gT σ))), none, none, none, some (.int (nI (gy σ))), some (.int (gme σ)), some (.int (gMI σ (nI 1) (gT σ))), some (.ref ml), some (.int (nI t)), none, none, none]) (st' := [.int 0, .int (nI t), .ref ml]) (by decide +kernel) rfl ?_
      refine V.zastN (j := t) hG hF (by decide +kernel) c1 (by omega) (by first | decide | omega) rfl ?_
      obtain ⟨h_2, gh2⟩ : ∃ z : Hp, z = hset hh ml (.inl (1, gT σ, .inl (upd bm t 0))) := ⟨_, rfl⟩
      refine V.hp gh2 ?_
      have gk2 : ∀ zq : Nat, zq ≠ ml → h_2 zq = hh zq := fun zq hq => by rw [gh2]; exact hset_ne hq
      have gs2 : h_2 ml = some (.inl (1, gT σ, .inl (upd bm t 0))) := by rw [gh2]; exact hset_eq
      have ew : Exw ml hh h_2 := Exw.of (fun x hx => gk2 x hx)
      have k := th z1 h_2 (upd bm t 0) none none none none none none (hW.exw ew hml) gs2 (key 0 (by rw [tf, if_neg hm])) (fun fm w => ew _ _ (c3 fm w) hne)
      refine V.run hF [(.iinc 19 1, 3, .int 1), (.goto (-30), 3, .null)] (pc' := 809) (L' := [some (.ref sb), some (.ref (A 0)), some (.ref (qo q)), some (.int (nI i)), some (.int x4), some (.int (nI (gT σ))), some (.int (gLn σ (gT σ))), some (.int (gTo σ (gT σ))), some (.int (unT σ (gT σ))), some (.ref og), some (.ref mny), some (.int (anyT σ (gT σ))), none, none, none, some (.int (nI (gy σ))), some (.int (gme σ)), some (.int (gMI σ (nI 1) (gT σ))), some (.ref ml), some (.int ((nI t) + 1)), none, none, none]) (st' := []) (by decide +kernel) rfl ?_
      rw [nI_1 t]
      exact V.less (by omega) (by omega) k
    · skip
      have hm : mlt σ t := ytm_1.mp b1
      refine V.run hF [(.iconst 1, 1, .int 1), (.goto 4, 3, .null)] (pc' := 835) (L' := [some (.ref sb), some (.ref (A 0)), some (.ref (qo q)), some (.int (nI i)), some (.int x4), some (.int (nI (gT σ))), some (.int (gLn σ (gT σ))), some (.int (gTo σ (gT σ))), some (.int (unT σ (gT σ))), some (.ref og), some (.ref mny), some (.int (anyT σ (gT σ))), none, none, none, some (.int (nI (gy σ))), some (.int (gme σ)), some (.int (gMI σ (nI 1) (gT σ))), some (.ref ml), some (.int (nI t)), none, none, none]) (st' := [.int 1, .int (nI t), .ref ml]) (by decide +kernel) rfl ?_
      refine V.zastN (j := t) hG hF (by decide +kernel) c1 (by omega) (by first | decide | omega) rfl ?_
      obtain ⟨h_3, gh3⟩ : ∃ z : Hp, z = hset hh ml (.inl (1, gT σ, .inl (upd bm t 1))) := ⟨_, rfl⟩
      refine V.hp gh3 ?_
      have gk3 : ∀ zq : Nat, zq ≠ ml → h_3 zq = hh zq := fun zq hq => by rw [gh3]; exact hset_ne hq
      have gs3 : h_3 ml = some (.inl (1, gT σ, .inl (upd bm t 1))) := by rw [gh3]; exact hset_eq
      have ew : Exw ml hh h_3 := Exw.of (fun x hx => gk3 x hx)
      have k := th z1 h_3 (upd bm t 1) none none none none none none (hW.exw ew hml) gs3 (key 1 (by rw [tf, if_pos hm])) (fun fm w => ew _ _ (c3 fm w) hne)
      refine V.run hF [(.iinc 19 1, 3, .int 1), (.goto (-30), 3, .null)] (pc' := 809) (L' := [some (.ref sb), some (.ref (A 0)), some (.ref (qo q)), some (.int (nI i)), some (.int x4), some (.int (nI (gT σ))), some (.int (gLn σ (gT σ))), some (.int (gTo σ (gT σ))), some (.int (unT σ (gT σ))), some (.ref og), some (.ref mny), some (.int (anyT σ (gT σ))), none, none, none, some (.int (nI (gy σ))), some (.int (gme σ)), some (.int (gMI σ (nI 1) (gT σ))), some (.ref ml), some (.int ((nI t) + 1)), none, none, none]) (st' := []) (by decide +kernel) rfl ?_
      rw [nI_1 t]
      exact V.less (by omega) (by omega) k
set_option maxHeartbeats 16000000 in
theorem law_year (hG : GOk G) (hF : Ok G F RL cL_law 23 (some .boolean)) (hRm : fR F = room_1) (hO : SO A q) (hR : RI σ) (hA : Am σ S) (hS6 : S ≤ 1000000) (h0 : 0 ≤ S) (hy : gy σ ≤ 100000) (h8 : gT σ ≤ 8) (hP : LPl A q σ og mny) {K1 K2 : Nat} {fm : Nat → Int32} (hfm : ∀ x, x < gT σ → fm x = nI (gn σ x))
    (kend : ∀ (hh : Hp) (ml : Nat) (L6 L7 L8 L9 L10 L11 L12 L13 L14 L15 L16 L17 L18 L19 L20 L21 L22 : Option Value), IV S (gy σ + 1) (A 0) (qo q) hh → V G F Q K1 K2 995 [some (.ref sb), some (.ref (A 0)), some (.ref (qo q)), some (.int (nI i)), some (.int x4), some (.int (nI (gT σ))), L6, L7, L8, L9, L10, L11, L12, L13, L14, L15, L16, L17, L18, L19, L20, L21, L22] [] hh)
    {hh : Hp} {L15 L16 L17 L18 L19 L20 L21 L22 : Option Value} (hL : LW A q σ og mny hh (fun a b => gOw σ (nI a) (nI b) (gT σ)) fm) : V G F Q (K1 + 360) (K2 + 220) 703 [some (.ref sb), some (.ref (A 0)), some (.ref (qo q)), some (.int (nI i)), some (.int x4), some (.int (nI (gT σ))), some (.int (gLn σ (gT σ))), some (.int (gTo σ (gT σ))), some (.int (unT σ (gT σ))), some (.ref og), some (.ref mny), some (.int (anyT σ (gT σ))), some (.int (sumT (hb σ) 8)), some (.int (sumT (atR σ) 8)), some (.int (rdT σ 8)), L15, L16, L17, L18, L19, L20, L21, L22] [] hh := by
  obtain ⟨⟨P, r, hC, hSm⟩, l2, l3⟩ := id hL
  have gA := hC.2.2.1
  obtain ⟨p1, p2, p3, p4, p5⟩ := id hP
  have f0 : sumT (hb σ) 8 = 0 := balT_sum hR (gT σ) (Nat.le_refl _)
  have f1 : sumT (atR σ) 8 + unT σ (gT σ) = gTo σ (gT σ) := risk_eq hR (gT σ) (Nat.le_refl _)
  have ra := rdT_iff (σ := σ) 8
  have aa := anyT_iff (σ := σ) (gT σ)
  have f2 : anyT σ (gT σ) = rdT σ 8 := by
    have iff : anyT σ (gT σ) = 1 ↔ rdT σ 8 = 1 := aa.2.trans ((any_aln hR).trans ra.2.symm)
    rcases aa.1 with w | w
    · rcases ra.1 with w2 | w2
      · rw [w, w2]
      · rw [iff.mpr w2, w2]
    · rw [w, iff.mp w]
  refine V.loc (L' := [some (.ref sb), some (.ref (A 0)), some (.ref (qo q)), some (.int (nI i)), some (.int x4), some (.int (nI (gT σ))), some (.int (gLn σ (gT σ))), some (.int (gTo σ (gT σ))), some (.int (unT σ (gT σ))), some (.ref og), some (.ref mny), some (.int (anyT σ (gT σ))), some (.int (sumT (hb σ) 8)), some (.int (sumT (atR σ) 8)), some (.int (rdT σ 8)), none, none, none, none, none, none, none, none]) (fun j v hv => by
    match j, hv with
    | 0, hv => exact hv
    | 1, hv => exact hv
    | 2, hv => exact hv
    | 3, hv => exact hv
    | 4, hv => exact hv
    | 5, hv => exact hv
    | 6, hv => exact hv
    | 7, hv => exact hv
    | 8, hv => exact hv
    | 9, hv => exact hv
    | 10, hv => exact hv
    | 11, hv => exact hv
    | 12, hv => exact hv
    | 13, hv => exact hv
    | 14, hv => exact hv
    | 15, hv => cases hv
    | 16, hv => cases hv
    | 17, hv => cases hv
    | 18, hv => cases hv
    | 19, hv => cases hv
    | 20, hv => cases hv
    | 21, hv => cases hv
    | 22, hv => cases hv
    | zz + 23, hv => cases hv) ?_
  refine V.run hF [(.iload 12, 2, .null)] (pc' := 705) (L' := [some (.ref sb), some (.ref (A 0)), some (.ref (qo q)), some (.int (nI i)), some (.int x4), some (.int (nI (gT σ))), some (.int (gLn σ (gT σ))), some (.int (gTo σ (gT σ))), some (.int (unT σ (gT σ))), some (.ref og), some (.ref mny), some (.int (anyT σ (gT σ))), some (.int (sumT (hb σ) 8)), some (.int (sumT (atR σ) 8)), some (.int (rdT σ 8)), none, none, none, none, none, none, none, none]) (st' := [.int (sumT (hb σ) 8)]) (by decide +kernel) rfl ?_
  refine V.if_ne hF (off := 74) (tgt := 779) (by decide +kernel) (by decide) (fun b1 => ?_) (fun b1 => ?_)
  · exact absurd f0 b1
  · skip
    refine V.run hF [(.iload 6, 2, .null), (.aload_n 1, 1, .null)] (pc' := 711) (L' := [some (.ref sb), some (.ref (A 0)), some (.ref (qo q)), some (.int (nI i)), some (.int x4), some (.int (nI (gT σ))), some (.int (gLn σ (gT σ))), some (.int (gTo σ (gT σ))), some (.int (unT σ (gT σ))), some (.ref og), some (.ref mny), some (.int (anyT σ (gT σ))), some (.int (sumT (hb σ) 8)), some (.int (sumT (atR σ) 8)), some (.int (rdT σ 8)), none, none, none, none, none, none, none, none]) (st' := [.ref (A 0), .int (gLn σ (gT σ))]) (by decide +kernel) rfl ?_
    refine V.less (kc' := (K1 + 360) + 0) (ks' := (K2 + 220) + 0) (by omega) (by omega) ?_
    refine V.callV (As := []) (st := [.int (gLn σ (gT σ))]) hG hF k_RL_151 (by decide +kernel) (c_X3_lines hG hC) gA rfl rfl ⟨by rw [hRm]; decide, by rw [hRm]; decide⟩ (Nat.le_of_ble_eq_true rfl) rfl (fun v h_1 gp1 => ?_) (fun E h9 hx => hx.elim)
    obtain ⟨rfl, he_gp1⟩ := gp1
    rw [he_gp1]
    show V G F _ _ _ 714 [some (.ref sb), some (.ref (A 0)), some (.ref (qo q)), some (.int (nI i)), some (.int x4), some (.int (nI (gT σ))), some (.int (gLn σ (gT σ))), some (.int (gTo σ (gT σ))), some (.int (unT σ (gT σ))), some (.ref og), some (.ref mny), some (.int (anyT σ (gT σ))), some (.int (sumT (hb σ) 8)), some (.int (sumT (atR σ) 8)), some (.int (rdT σ 8)), none, none, none, none, none, none, none, none] [.int (gLn σ (gT σ)), .int (gLn σ (gT σ))] hh
    refine V.icmp_ne hF (off := 65) (tgt := 779) (by decide +kernel) (by decide) (fun b1 => ?_) (fun b1 => ?_)
    · exact absurd rfl b1
    · skip
      refine V.run hF [(.iload 7, 2, .null), (.aload_n 1, 1, .null)] (pc' := 720) (L' := [some (.ref sb), some (.ref (A 0)), some (.ref (qo q)), some (.int (nI i)), some (.int x4), some (.int (nI (gT σ))), some (.int (gLn σ (gT σ))), some (.int (gTo σ (gT σ))), some (.int (unT σ (gT σ))), some (.ref og), some (.ref mny), some (.int (anyT σ (gT σ))), some (.int (sumT (hb σ) 8)), some (.int (sumT (atR σ) 8)), some (.int (rdT σ 8)), none, none, none, none, none, none, none, none]) (st' := [.ref (A 0), .int (gTo σ (gT σ))]) (by decide +kernel) rfl ?_
      refine V.less (kc' := (K1 + 360) + 0) (ks' := (K2 + 220) + 0) (by omega) (by omega) ?_
      refine V.callV (As := []) (st := [.int (gTo σ (gT σ))]) hG hF k_RL_153 (by decide +kernel) (c_X3_total hG hC) gA rfl rfl ⟨by rw [hRm]; decide, by rw [hRm]; decide⟩ (Nat.le_of_ble_eq_true rfl) rfl (fun v h_2 gp2 => ?_) (fun E h9 hx => hx.elim)
      obtain ⟨rfl, he_gp2⟩ := gp2
      rw [he_gp2]
      show V G F _ _ _ 723 [some (.ref sb), some (.ref (A 0)), some (.ref (qo q)), some (.int (nI i)), some (.int x4), some (.int (nI (gT σ))), some (.int (gLn σ (gT σ))), some (.int (gTo σ (gT σ))), some (.int (unT σ (gT σ))), some (.ref og), some (.ref mny), some (.int (anyT σ (gT σ))), some (.int (sumT (hb σ) 8)), some (.int (sumT (atR σ) 8)), some (.int (rdT σ 8)), none, none, none, none, none, none, none, none] [.int (gTo σ (gT σ)), .int (gTo σ (gT σ))] hh
      refine V.icmp_ne hF (off := 56) (tgt := 779) (by decide +kernel) (by decide) (fun b1 => ?_) (fun b1 => ?_)
      · exact absurd rfl b1
      · skip
        refine V.run hF [(.iload 13, 2, .null), (.iload 8, 2, .null), (.iadd, 1, .null), (.iload 7, 2, .null)] (pc' := 733) (L' := [some (.ref sb), some (.ref (A 0)), some (.ref (qo q)), some (.int (nI i)), some (.int x4), some (.int (nI (gT σ))), some (.int (gLn σ (gT σ))), some (.int (gTo σ (gT σ))), some (.int (unT σ (gT σ))), some (.ref og), some (.ref mny), some (.int (anyT σ (gT σ))), some (.int (sumT (hb σ) 8)), some (.int (sumT (atR σ) 8)), some (.int (rdT σ 8)), none, none, none, none, none, none, none, none]) (st' := [.int (gTo σ (gT σ)), .int (sumT (atR σ) 8 + unT σ (gT σ))]) (by decide +kernel) rfl ?_
        refine V.icmp_ne hF (off := 46) (tgt := 779) (by decide +kernel) (by decide) (fun b1 => ?_) (fun b1 => ?_)
        · exact absurd f1 b1
        · skip
          refine V.run hF [(.aload_n 1, 1, .null)] (pc' := 737) (L' := [some (.ref sb), some (.ref (A 0)), some (.ref (qo q)), some (.int (nI i)), some (.int x4), some (.int (nI (gT σ))), some (.int (gLn σ (gT σ))), some (.int (gTo σ (gT σ))), some (.int (unT σ (gT σ))), some (.ref og), some (.ref mny), some (.int (anyT σ (gT σ))), some (.int (sumT (hb σ) 8)), some (.int (sumT (atR σ) 8)), some (.int (rdT σ 8)), none, none, none, none, none, none, none, none]) (st' := [.ref (A 0)]) (by decide +kernel) rfl ?_
          refine V.less (kc' := (K1 + 360) + 0) (ks' := (K2 + 220) + 0) (by omega) (by omega) ?_
          refine V.callV (As := []) (st := []) hG hF k_RL_156 (by decide +kernel) (c_X3_isRound hG hC) gA rfl rfl ⟨by rw [hRm]; decide, by rw [hRm]; decide⟩ (Nat.le_of_ble_eq_true rfl) rfl (fun v h4 hp4 => ?_) (fun E h9 hx => hx.elim)
          obtain ⟨hv4, r4, hC4, hk4⟩ := hp4
          have hL4 := hL.kp hP hSm hC hO hC4 hk4
          have hSm4 := hSm.kp hC hO hk4
          obtain ⟨-, -, l34⟩ := id hL4
          have gA4 := hC4.2.2.1
          rw [hv4]
          show V G F _ _ _ 740 [some (.ref sb), some (.ref (A 0)), some (.ref (qo q)), some (.int (nI i)), some (.int x4), some (.int (nI (gT σ))), some (.int (gLn σ (gT σ))), some (.int (gTo σ (gT σ))), some (.int (unT σ (gT σ))), some (.ref og), some (.ref mny), some (.int (anyT σ (gT σ))), some (.int (sumT (hb σ) 8)), some (.int (sumT (atR σ) 8)), some (.int (rdT σ 8)), none, none, none, none, none, none, none, none] [.int (rnd (whV 8 (R0 σ)) 8 0)] h4
          -- from 781 on: the year
          have year : V G F Q (K1 + 360) (K2 + 220) 781 [some (.ref sb), some (.ref (A 0)), some (.ref (qo q)), some (.int (nI i)), some (.int x4), some (.int (nI (gT σ))), some (.int (gLn σ (gT σ))), some (.int (gTo σ (gT σ))), some (.int (unT σ (gT σ))), some (.ref og), some (.ref mny), some (.int (anyT σ (gT σ))), some (.int (sumT (hb σ) 8)), some (.int (sumT (atR σ) 8)), some (.int (rdT σ 8)), none, none, none, none, none, none, none, none] [] h4 := by
            refine V.loc (L' := [some (.ref sb), some (.ref (A 0)), some (.ref (qo q)), some (.int (nI i)), some (.int x4), some (.int (nI (gT σ))), some (.int (gLn σ (gT σ))), some (.int (gTo σ (gT σ))), some (.int (unT σ (gT σ))), some (.ref og), some (.ref mny), some (.int (anyT σ (gT σ))), some (.int (sumT (hb σ) 8)), some (.int (sumT (atR σ) 8)), some (.int (rdT σ 8)), none, none, none, none, none, none, none, none]) (fun j v hv => by
              match j, hv with
              | 0, hv => exact hv
              | 1, hv => exact hv
              | 2, hv => exact hv
              | 3, hv => exact hv
              | 4, hv => exact hv
              | 5, hv => exact hv
              | 6, hv => exact hv
              | 7, hv => exact hv
              | 8, hv => exact hv
              | 9, hv => exact hv
              | 10, hv => exact hv
              | 11, hv => exact hv
              | 12, hv => exact hv
              | 13, hv => exact hv
              | 14, hv => exact hv
              | 15, hv => cases hv
              | 16, hv => cases hv
              | 17, hv => cases hv
              | 18, hv => cases hv
              | 19, hv => cases hv
              | 20, hv => cases hv
              | 21, hv => cases hv
              | 22, hv => cases hv
              | zz + 23, hv => cases hv) ?_
            refine V.run hF [(.aload_n 1, 1, .null)] (pc' := 782) (L' := [some (.ref sb), some (.ref (A 0)), some (.ref (qo q)), some (.int (nI i)), some (.int x4), some (.int (nI (gT σ))), some (.int (gLn σ (gT σ))), some (.int (gTo σ (gT σ))), some (.int (unT σ (gT σ))), some (.ref og), some (.ref mny), some (.int (anyT σ (gT σ))), some (.int (sumT (hb σ) 8)), some (.int (sumT (atR σ) 8)), some (.int (rdT σ 8)), none, none, none, none, none, none, none, none]) (st' := [.ref (A 0)]) (by decide +kernel) rfl ?_
            refine V.less (kc' := (K1 + 360) + 0) (ks' := (K2 + 220) + 0) (by omega) (by omega) ?_
            refine V.callV (As := []) (st := []) hG hF k_RL_164 (by decide +kernel) (c_X3_year hG hC4) gA4 rfl rfl ⟨by rw [hRm]; decide, by rw [hRm]; decide⟩ (Nat.le_of_ble_eq_true rfl) rfl (fun v h_4 gp4 => ?_) (fun E h9 hx => hx.elim)
            obtain ⟨rfl, he_gp4⟩ := gp4
            rw [he_gp4]
            show V G F _ _ _ 785 [some (.ref sb), some (.ref (A 0)), some (.ref (qo q)), some (.int (nI i)), some (.int x4), some (.int (nI (gT σ))), some (.int (gLn σ (gT σ))), some (.int (gTo σ (gT σ))), some (.int (unT σ (gT σ))), some (.ref og), some (.ref mny), some (.int (anyT σ (gT σ))), some (.int (sumT (hb σ) 8)), some (.int (sumT (atR σ) 8)), some (.int (rdT σ 8)), none, none, none, none, none, none, none, none] [.int (nI (gy σ))] h4
            refine V.run hF [(.istore 15, 2, .null), (.aload_n 1, 1, .null)] (pc' := 788) (L' := [some (.ref sb), some (.ref (A 0)), some (.ref (qo q)), some (.int (nI i)), some (.int x4), some (.int (nI (gT σ))), some (.int (gLn σ (gT σ))), some (.int (gTo σ (gT σ))), some (.int (unT σ (gT σ))), some (.ref og), some (.ref mny), some (.int (anyT σ (gT σ))), some (.int (sumT (hb σ) 8)), some (.int (sumT (atR σ) 8)), some (.int (rdT σ 8)), some (.int (nI (gy σ))), none, none, none, none, none, none, none]) (st' := [.ref (A 0)]) (by decide +kernel) rfl ?_
            refine V.less (kc' := (K1 + 360) + 0) (ks' := (K2 + 220) + 0) (by omega) (by omega) ?_
            refine V.callV (As := []) (st := []) hG hF k_RL_167 (by decide +kernel) (c_X3_melted hG hC4) gA4 rfl rfl ⟨by rw [hRm]; decide, by rw [hRm]; decide⟩ (Nat.le_of_ble_eq_true rfl) rfl (fun v h_5 gp5 => ?_) (fun E h9 hx => hx.elim)
            obtain ⟨rfl, he_gp5⟩ := gp5
            rw [he_gp5]
            show V G F _ _ _ 791 [some (.ref sb), some (.ref (A 0)), some (.ref (qo q)), some (.int (nI i)), some (.int x4), some (.int (nI (gT σ))), some (.int (gLn σ (gT σ))), some (.int (gTo σ (gT σ))), some (.int (unT σ (gT σ))), some (.ref og), some (.ref mny), some (.int (anyT σ (gT σ))), some (.int (sumT (hb σ) 8)), some (.int (sumT (atR σ) 8)), some (.int (rdT σ 8)), some (.int (nI (gy σ))), none, none, none, none, none, none, none] [.int (gme σ)] h4
            refine V.run hF [(.istore 16, 2, .null), (.aload_n 1, 1, .null), (.iconst 1, 1, .int (nI 1))] (pc' := 795) (L' := [some (.ref sb), some (.ref (A 0)), some (.ref (qo q)), some (.int (nI i)), some (.int x4), some (.int (nI (gT σ))), some (.int (gLn σ (gT σ))), some (.int (gTo σ (gT σ))), some (.int (unT σ (gT σ))), some (.ref og), some (.ref mny), some (.int (anyT σ (gT σ))), some (.int (sumT (hb σ) 8)), some (.int (sumT (atR σ) 8)), some (.int (rdT σ 8)), some (.int (nI (gy σ))), some (.int (gme σ)), none, none, none, none, none, none]) (st' := [.int (nI 1), .ref (A 0)]) (by decide +kernel) rfl ?_
            refine V.less (kc' := (K1 + 359) + 1) (ks' := (K2 + 214) + 6) (by omega) (by omega) ?_
            refine V.callV (As := [.int (nI 1)]) (st := []) hG hF k_RL_170 (by decide +kernel) (hp_meltsIn hG hC4 (by omega)) gA4 rfl rfl ⟨by rw [hRm]; decide, by rw [hRm]; decide⟩ (Nat.le_of_ble_eq_true rfl) rfl (fun v h_6 gp6 => ?_) (fun E h9 hx => hx.elim)
            obtain ⟨rfl, he_gp6⟩ := gp6
            rw [he_gp6]
            show V G F _ _ _ 798 [some (.ref sb), some (.ref (A 0)), some (.ref (qo q)), some (.int (nI i)), some (.int x4), some (.int (nI (gT σ))), some (.int (gLn σ (gT σ))), some (.int (gTo σ (gT σ))), some (.int (unT σ (gT σ))), some (.ref og), some (.ref mny), some (.int (anyT σ (gT σ))), some (.int (sumT (hb σ) 8)), some (.int (sumT (atR σ) 8)), some (.int (rdT σ 8)), some (.int (nI (gy σ))), some (.int (gme σ)), none, none, none, none, none, none] [.int (gMI σ (nI 1) (gT σ))] h4
            refine V.run hF [(.istore 17, 2, .null), (.iload 5, 2, .null)] (pc' := 802) (L' := [some (.ref sb), some (.ref (A 0)), some (.ref (qo q)), some (.int (nI i)), some (.int x4), some (.int (nI (gT σ))), some (.int (gLn σ (gT σ))), some (.int (gTo σ (gT σ))), some (.int (unT σ (gT σ))), some (.ref og), some (.ref mny), some (.int (anyT σ (gT σ))), some (.int (sumT (hb σ) 8)), some (.int (sumT (atR σ) 8)), some (.int (rdT σ 8)), some (.int (nI (gy σ))), some (.int (gme σ)), some (.int (gMI σ (nI 1) (gT σ))), none, none, none, none, none]) (st' := [.int (nI (gT σ))]) (by decide +kernel) rfl ?_
            refine V.less (kc' := (K1 + 358) + 1) (ks' := (K2 + 206) + gT σ) (by omega) (by omega) ?_
            refine V.newa (aty := .boolean) (t := 1) (N := gT σ) (a0 := (gT σ, .inl (fun _ => 0))) hG hF (by decide) rfl tw_arr_1.1 (by decide +kernel) (nI_pos (by omega)) (nI_clamp (by omega)) (Nat.le_trans (Nat.mul_le_mul_right _ (show gT σ ≤ 8 by omega)) (by decide)) (fun _ => rfl) (fun ml hq_ml => ?_)
            have ne_A0_ml : (A 0) ≠ ml := ne_new gA4 hq_ml
            have ne_mny_ml : mny ≠ ml := ne_new l34 hq_ml
            obtain ⟨h_7, gh7⟩ : ∃ z : Hp, z = hset h4 ml (.inl (1, gT σ, .inl (fun _ => 0))) := ⟨_, rfl⟩
            refine V.hp gh7 ?_
            have gk7 : ∀ zq : Nat, zq ≠ ml → h_7 zq = h4 zq := fun zq hq => by rw [gh7]; exact hset_ne hq
            have gs7 : h_7 ml = some (.inl (1, gT σ, .inl (fun _ => 0))) := by rw [gh7]; exact hset_eq
            have hml : LO A q σ ml := hL4.1.lo hq_ml
            have nmm : mny ≠ ml := ne_mny_ml
            have hW5 : WD A q σ h_7 := hL4.1.ex (Ex.new hq_ml (fun x hx => gk7 x hx))
            have gf8 : h_7 mny = some (.inl (0, gT σ, .inl fm)) := (gk7 mny (by first | assumption | exact Ne.symm (by assumption) | omega)).trans l34
            have l35 := gf8
            have lm5 := gs7
            obtain ⟨h5, eh5⟩ : ∃ z : Hp, z = h_7 := ⟨_, rfl⟩
            refine V.run hF [(.astore 18, 2, .null), (.iconst 0, 1, .int (nI 0)), (.istore 19, 2, .null)] (pc' := 809) (L' := [some (.ref sb), some (.ref (A 0)), some (.ref (qo q)), some (.int (nI i)), some (.int x4), some (.int (nI (gT σ))), some (.int (gLn σ (gT σ))), some (.int (gTo σ (gT σ))), some (.int (unT σ (gT σ))), some (.ref og), some (.ref mny), some (.int (anyT σ (gT σ))), some (.int (sumT (hb σ) 8)), some (.int (sumT (atR σ) 8)), some (.int (rdT σ 8)), some (.int (nI (gy σ))), some (.int (gme σ)), some (.int (gMI σ (nI 1) (gT σ))), some (.ref ml), some (.int (nI 0)), none, none, none]) (st' := []) (by decide +kernel) rfl ?_
            have km := law_melts (h9 := h5) hG hF hRm hO hR hA hS6 h0 hy h8 (Q := Q) (sb := sb) (i := i) (x4 := x4) (og := og) (mny := mny) (K1 := K1 + 340) (K2 := K2 + 110) hml (fun h6 bm L12 L13 L14 L19 L20 L21 L22 hW6 m1 m2 m3 => ?_) nmm 0 (Nat.zero_le _) h_7 (fun _ => 0)
            · exact V.less (by omega) (by omega) (km _ _ _ _ _ _ hW5 lm5 (fun x hx => absurd hx (Nat.not_lt_zero x)) (fun fm w => by rw [eh5] at w; exact w))
            · obtain ⟨P6, r6, hC6, hSm6⟩ := id hW6
              have l36 := m3 fm (by rw [eh5]; exact l35)
              have gA6 := hC6.2.2.1
              refine V.loc (L' := [some (.ref sb), some (.ref (A 0)), some (.ref (qo q)), some (.int (nI i)), some (.int x4), some (.int (nI (gT σ))), some (.int (gLn σ (gT σ))), some (.int (gTo σ (gT σ))), some (.int (unT σ (gT σ))), some (.ref og), some (.ref mny), some (.int (anyT σ (gT σ))), none, none, none, some (.int (nI (gy σ))), some (.int (gme σ)), some (.int (gMI σ (nI 1) (gT σ))), some (.ref ml), none, none, none, none]) (fun j v hv => by
                match j, hv with
                | 0, hv => exact hv
                | 1, hv => exact hv
                | 2, hv => exact hv
                | 3, hv => exact hv
                | 4, hv => exact hv
                | 5, hv => exact hv
                | 6, hv => exact hv
                | 7, hv => exact hv
                | 8, hv => exact hv
                | 9, hv => exact hv
                | 10, hv => exact hv
                | 11, hv => exact hv
                | 12, hv => cases hv
                | 13, hv => cases hv
                | 14, hv => cases hv
                | 15, hv => exact hv
                | 16, hv => exact hv
                | 17, hv => exact hv
                | 18, hv => exact hv
                | 19, hv => cases hv
                | 20, hv => cases hv
                | 21, hv => cases hv
                | 22, hv => cases hv
                | zz + 23, hv => cases hv) ?_
              refine V.run hF [(.aload_n 1, 1, .null)] (pc' := 843) (L' := [some (.ref sb), some (.ref (A 0)), some (.ref (qo q)), some (.int (nI i)), some (.int x4), some (.int (nI (gT σ))), some (.int (gLn σ (gT σ))), some (.int (gTo σ (gT σ))), some (.int (unT σ (gT σ))), some (.ref og), some (.ref mny), some (.int (anyT σ (gT σ))), none, none, none, some (.int (nI (gy σ))), some (.int (gme σ)), some (.int (gMI σ (nI 1) (gT σ))), some (.ref ml), none, none, none, none]) (st' := [.ref (A 0)]) (by decide +kernel) rfl ?_
              refine V.less (kc' := (K1 + 340) + 0) (ks' := (K2 + 110) + 0) (by omega) (by omega) ?_
              refine V.callV (As := []) (st := []) hG hF k_RL_173 (by decide +kernel) (c_X3_denied hG hC6) gA6 rfl rfl ⟨by rw [hRm]; decide, by rw [hRm]; decide⟩ (Nat.le_of_ble_eq_true rfl) rfl (fun v h_9 gp9 => ?_) (fun E h9 hx => hx.elim)
              obtain ⟨rfl, he_gp9⟩ := gp9
              rw [he_gp9]
              show V G F _ _ _ 846 [some (.ref sb), some (.ref (A 0)), some (.ref (qo q)), some (.int (nI i)), some (.int x4), some (.int (nI (gT σ))), some (.int (gLn σ (gT σ))), some (.int (gTo σ (gT σ))), some (.int (unT σ (gT σ))), some (.ref og), some (.ref mny), some (.int (anyT σ (gT σ))), none, none, none, some (.int (nI (gy σ))), some (.int (gme σ)), some (.int (gMI σ (nI 1) (gT σ))), some (.ref ml), none, none, none, none] [.int (gde σ)] h6
              refine V.run hF [(.istore 19, 2, .null), (.aload_n 1, 1, .null), (.iconst 1, 1, .int (nI 1))] (pc' := 850) (L' := [some (.ref sb), some (.ref (A 0)), some (.ref (qo q)), some (.int (nI i)), some (.int x4), some (.int (nI (gT σ))), some (.int (gLn σ (gT σ))), some (.int (gTo σ (gT σ))), some (.int (unT σ (gT σ))), some (.ref og), some (.ref mny), some (.int (anyT σ (gT σ))), none, none, none, some (.int (nI (gy σ))), some (.int (gme σ)), some (.int (gMI σ (nI 1) (gT σ))), some (.ref ml), some (.int (gde σ)), none, none, none]) (st' := [.int (nI 1), .ref (A 0)]) (by decide +kernel) rfl ?_
              refine V.less (kc' := (K1 + 339) + 1) (ks' := (K2 + 104) + 6) (by omega) (by omega) ?_
              refine V.callV (As := [.int (nI 1)]) (st := []) hG hF k_RL_79 (by decide +kernel) (hp_pass hG hC6 (by omega)) gA6 rfl rfl ⟨by rw [hRm]; decide, by rw [hRm]; decide⟩ (Nat.le_of_ble_eq_true rfl) rfl (fun v h7 hp7 => ?_) (fun E h9 hx => hx.elim)
              obtain ⟨hv7, hC7, hk7⟩ := hp7
              have hS7 := hSm6.kp hC6 hO hk7
              have l37 := (hk7 _ p3.1).trans l36
              have lm7 := (hk7 _ hml.1).trans m1
              rw [hv7]
              obtain ⟨t1, -⟩ := id hS7
              show V G F _ _ _ 853 [some (.ref sb), some (.ref (A 0)), some (.ref (qo q)), some (.int (nI i)), some (.int x4), some (.int (nI (gT σ))), some (.int (gLn σ (gT σ))), some (.int (gTo σ (gT σ))), some (.int (unT σ (gT σ))), some (.ref og), some (.ref mny), some (.int (anyT σ (gT σ))), none, none, none, some (.int (nI (gy σ))), some (.int (gme σ)), some (.int (gMI σ (nI 1) (gT σ))), some (.ref ml), some (.int (gde σ)), none, none, none] [.int (goN 1 σ)] h7
              refine V.run hF [(.istore 20, 2, .null), (.aload_n 2, 1, .null), (.iconst 1, 1, .int (nI 1))] (pc' := 857) (L' := [some (.ref sb), some (.ref (A 0)), some (.ref (qo q)), some (.int (nI i)), some (.int x4), some (.int (nI (gT σ))), some (.int (gLn σ (gT σ))), some (.int (gTo σ (gT σ))), some (.int (unT σ (gT σ))), some (.ref og), some (.ref mny), some (.int (anyT σ (gT σ))), none, none, none, some (.int (nI (gy σ))), some (.int (gme σ)), some (.int (gMI σ (nI 1) (gT σ))), some (.ref ml), some (.int (gde σ)), some (.int (goN 1 σ)), none, none]) (st' := [.int (nI 1), .ref (qo q)]) (by decide +kernel) rfl ?_
              refine V.less (kc' := (K1 + 16) + 320) (ks' := (K2 + 100) + 0) (by omega) (by omega) ?_
              refine V.callV (As := [.int (nI 1)]) (st := []) hG hF k_RL_82 (by decide +kernel) (c_X4_pass hG hS7 h8 (n := 1) (by decide) (by omega)) t1 rfl rfl ⟨by rw [hRm]; decide, by rw [hRm]; decide⟩ (Nat.le_of_ble_eq_true rfl) rfl (fun v h9 hp9 => ?_) (fun E h9 hx => hx.elim)
              obtain ⟨hv9, la, rr, hS9, hf9⟩ := hp9
              rw [hv9]
              show V G F _ _ _ 860 [some (.ref sb), some (.ref (A 0)), some (.ref (qo q)), some (.int (nI i)), some (.int x4), some (.int (nI (gT σ))), some (.int (gLn σ (gT σ))), some (.int (gTo σ (gT σ))), some (.int (unT σ (gT σ))), some (.ref og), some (.ref mny), some (.int (anyT σ (gT σ))), none, none, none, some (.int (nI (gy σ))), some (.int (gme σ)), some (.int (gMI σ (nI 1) (gT σ))), some (.ref ml), some (.int (gde σ)), some (.int (goN 1 σ)), none, none] [.int (goN 1 σ)] h9
              have hC9 : CS h9 A (sPass σ 1) P6 r6 := hC7.same fun i hi => by
                have hi' : i < 12 + 6 * gT σ := hi
                obtain ⟨c, hc⟩ := hC7.live hi
                rw [hc, hf9 _ _ hc (Ne.symm (hS7.o1 hC7 i hi)) (Ne.symm (hS7.o6 hC7 i hi))]
              have l39 := hf9 _ _ l37 (Ne.symm p3.2.1) (Ne.symm p3.2.2.2.2.2.2.1)
              have lm9 := hf9 _ _ lm7 (Ne.symm hml.2.1) (Ne.symm hml.2.2.2.2.2.2.1)
              refine V.run hF [(.pop, 1, .null), (.iconst 0, 1, .int 0), (.istore 21, 2, .null), (.iconst 0, 1, .int (nI 0)), (.istore 22, 2, .null)] (pc' := 867) (L' := [some (.ref sb), some (.ref (A 0)), some (.ref (qo q)), some (.int (nI i)), some (.int x4), some (.int (nI (gT σ))), some (.int (gLn σ (gT σ))), some (.int (gTo σ (gT σ))), some (.int (unT σ (gT σ))), some (.ref og), some (.ref mny), some (.int (anyT σ (gT σ))), none, none, none, some (.int (nI (gy σ))), some (.int (gme σ)), some (.int (gMI σ (nI 1) (gT σ))), some (.ref ml), some (.int (gde σ)), some (.int (goN 1 σ)), some (.int 0), some (.int (nI 0))]) (st' := []) (by decide +kernel) rfl ?_
              have kg := law_gone hG hF hRm hO hR hA hS6 h0 hy h8 (Q := Q) (sb := sb) (i := i) (x4 := x4) (og := og) (mny := mny) (ml := ml) (K1 := K1) (K2 := K2) (q' := ql q la rr) rfl hO hC9 hS9 l39 lm9 hfm m2 (fun hz L6 L7 L8 L9 L10 L11 L12 L13 L14 L15 L16 L17 L18 L19 L20 L21 L22 hI => kend hz ml L6 L7 L8 L9 L10 L11 L12 L13 L14 L15 L16 L17 L18 L19 L20 L21 L22 hI) 0 (Nat.zero_le _)
              exact V.less (by omega) (by omega) (kg _ _ _)
          -- from 748 on
          have rest : V G F Q (K1 + 360) (K2 + 220) 748 [some (.ref sb), some (.ref (A 0)), some (.ref (qo q)), some (.int (nI i)), some (.int x4), some (.int (nI (gT σ))), some (.int (gLn σ (gT σ))), some (.int (gTo σ (gT σ))), some (.int (unT σ (gT σ))), some (.ref og), some (.ref mny), some (.int (anyT σ (gT σ))), some (.int (sumT (hb σ) 8)), some (.int (sumT (atR σ) 8)), some (.int (rdT σ 8)), none, none, none, none, none, none, none, none] [] h4 := by
            refine V.run hF [(.iload 11, 2, .null), (.iload 14, 2, .null)] (pc' := 752) (L' := [some (.ref sb), some (.ref (A 0)), some (.ref (qo q)), some (.int (nI i)), some (.int x4), some (.int (nI (gT σ))), some (.int (gLn σ (gT σ))), some (.int (gTo σ (gT σ))), some (.int (unT σ (gT σ))), some (.ref og), some (.ref mny), some (.int (anyT σ (gT σ))), some (.int (sumT (hb σ) 8)), some (.int (sumT (atR σ) 8)), some (.int (rdT σ 8)), none, none, none, none, none, none, none, none]) (st' := [.int (rdT σ 8), .int (anyT σ (gT σ))]) (by decide +kernel) rfl ?_
            refine V.icmp_ne hF (off := 27) (tgt := 779) (by decide +kernel) (by decide) (fun b2 => ?_) (fun b2 => ?_)
            · exact absurd f2 b2
            · skip
              refine V.run hF [(.aload_n 1, 1, .null)] (pc' := 756) (L' := [some (.ref sb), some (.ref (A 0)), some (.ref (qo q)), some (.int (nI i)), some (.int x4), some (.int (nI (gT σ))), some (.int (gLn σ (gT σ))), some (.int (gTo σ (gT σ))), some (.int (unT σ (gT σ))), some (.ref og), some (.ref mny), some (.int (anyT σ (gT σ))), some (.int (sumT (hb σ) 8)), some (.int (sumT (atR σ) 8)), some (.int (rdT σ 8)), none, none, none, none, none, none, none, none]) (st' := [.ref (A 0)]) (by decide +kernel) rfl ?_
              refine V.less (kc' := (K1 + 360) + 0) (ks' := (K2 + 220) + 0) (by omega) (by omega) ?_
              refine V.callV (As := []) (st := []) hG hF k_RL_160 (by decide +kernel) (c_X3_meanAmount hG hC4) gA4 rfl rfl ⟨by rw [hRm]; decide, by rw [hRm]; decide⟩ (Nat.le_of_ble_eq_true rfl) rfl (fun v h_12 gp12 => ?_) (fun E h9 hx => hx.elim)
              obtain ⟨rfl, he_gp12⟩ := gp12
              rw [he_gp12]
              show V G F _ _ _ 759 [some (.ref sb), some (.ref (A 0)), some (.ref (qo q)), some (.int (nI i)), some (.int x4), some (.int (nI (gT σ))), some (.int (gLn σ (gT σ))), some (.int (gTo σ (gT σ))), some (.int (unT σ (gT σ))), some (.ref og), some (.ref mny), some (.int (anyT σ (gT σ))), some (.int (sumT (hb σ) 8)), some (.int (sumT (atR σ) 8)), some (.int (rdT σ 8)), none, none, none, none, none, none, none, none] [.double (mn (gLn σ (gT σ)) (gTo σ (gT σ)))] h4
              refine V.run hF [(.iload 6, 2, .null)] (pc' := 761) (L' := [some (.ref sb), some (.ref (A 0)), some (.ref (qo q)), some (.int (nI i)), some (.int x4), some (.int (nI (gT σ))), some (.int (gLn σ (gT σ))), some (.int (gTo σ (gT σ))), some (.int (unT σ (gT σ))), some (.ref og), some (.ref mny), some (.int (anyT σ (gT σ))), some (.int (sumT (hb σ) 8)), some (.int (sumT (atR σ) 8)), some (.int (rdT σ 8)), none, none, none, none, none, none, none, none]) (st' := [.int (gLn σ (gT σ)), .double (mn (gLn σ (gT σ)) (gTo σ (gT σ)))]) (by decide +kernel) rfl ?_
              refine V.if_ne hF (off := 7) (tgt := 768) (by decide +kernel) (by decide) (fun c2 => ?_) (fun c2 => ?_)
              · skip
                refine V.run hF [(.iload 7, 2, .null), (.i2d, 1, .null), (.iload 6, 2, .null), (.i2d, 1, .null)] (pc' := 774) (L' := [some (.ref sb), some (.ref (A 0)), some (.ref (qo q)), some (.int (nI i)), some (.int x4), some (.int (nI (gT σ))), some (.int (gLn σ (gT σ))), some (.int (gTo σ (gT σ))), some (.int (unT σ (gT σ))), some (.ref og), some (.ref mny), some (.int (anyT σ (gT σ))), some (.int (sumT (hb σ) 8)), some (.int (sumT (atR σ) 8)), some (.int (rdT σ 8)), none, none, none, none, none, none, none, none]) (st' := [.double (FP.i2d (gLn σ (gT σ))), .double (FP.i2d (gTo σ (gT σ))), .double (mn (gLn σ (gT σ)) (gTo σ (gT σ)))]) (by decide +kernel) rfl ?_
                refine V.ddiv hF (by decide +kernel) (dv_n64 _ _ c2) ?_
                have em : FP.ddiv (FP.i2d (gTo σ (gT σ))) (FP.i2d (gLn σ (gT σ))) = mn (gLn σ (gT σ)) (gTo σ (gT σ)) := by rw [mn, if_neg c2]
                rw [em]
                refine V.run hF [(.dcmp .l, 1, .null)] (pc' := 776) (L' := [some (.ref sb), some (.ref (A 0)), some (.ref (qo q)), some (.int (nI i)), some (.int x4), some (.int (nI (gT σ))), some (.int (gLn σ (gT σ))), some (.int (gTo σ (gT σ))), some (.int (unT σ (gT σ))), some (.ref og), some (.ref mny), some (.int (anyT σ (gT σ))), some (.int (sumT (hb σ) 8)), some (.int (sumT (atR σ) 8)), some (.int (rdT σ 8)), none, none, none, none, none, none, none, none]) (st' := [.int (Op.cmpValue (FP.dcmp (mn (gLn σ (gT σ)) (gTo σ (gT σ))) (mn (gLn σ (gT σ)) (gTo σ (gT σ)))) .l)]) (by decide +kernel) rfl ?_
                refine V.if_eq hF (off := 5) (tgt := 781) (by decide +kernel) (by decide) (fun c3 => ?_) (fun c3 => ?_)
                · exact year
                · skip
                  exact absurd (mn_self _ _) c3
              · skip
                have em : mn (gLn σ (gT σ)) (gTo σ (gT σ)) = 0 := by rw [mn, if_pos c2]
                rw [em]
                refine V.dconst0 hF (by decide +kernel) ?_
                refine V.run hF [(.goto 10, 3, .null)] (pc' := 775) (L' := [some (.ref sb), some (.ref (A 0)), some (.ref (qo q)), some (.int (nI i)), some (.int x4), some (.int (nI (gT σ))), some (.int (gLn σ (gT σ))), some (.int (gTo σ (gT σ))), some (.int (unT σ (gT σ))), some (.ref og), some (.ref mny), some (.int (anyT σ (gT σ))), some (.int (sumT (hb σ) 8)), some (.int (sumT (atR σ) 8)), some (.int (rdT σ 8)), none, none, none, none, none, none, none, none]) (st' := [.double 0, .double 0]) (by decide +kernel) rfl ?_
                refine V.run hF [(.dcmp .l, 1, .null)] (pc' := 776) (L' := [some (.ref sb), some (.ref (A 0)), some (.ref (qo q)), some (.int (nI i)), some (.int x4), some (.int (nI (gT σ))), some (.int (gLn σ (gT σ))), some (.int (gTo σ (gT σ))), some (.int (unT σ (gT σ))), some (.ref og), some (.ref mny), some (.int (anyT σ (gT σ))), some (.int (sumT (hb σ) 8)), some (.int (sumT (atR σ) 8)), some (.int (rdT σ 8)), none, none, none, none, none, none, none, none]) (st' := [.int (Op.cmpValue (FP.dcmp 0 0) .l)]) (by decide +kernel) rfl ?_
                refine V.if_eq hF (off := 5) (tgt := 781) (by decide +kernel) (by decide) (fun c3 => ?_) (fun c3 => ?_)
                · exact year
                · skip
                  exact absurd (by rw [← em]; exact mn_self _ _) c3
          refine V.if_eq hF (off := 8) (tgt := 748) (by decide +kernel) (by decide) (fun b2 => ?_) (fun b2 => ?_)
          · exact rest
          · skip
            have h1 : rdT σ 8 = 1 := ra.2.mpr (rnd_aln hR b2)
            refine V.run hF [(.iload 14, 2, .null)] (pc' := 745) (L' := [some (.ref sb), some (.ref (A 0)), some (.ref (qo q)), some (.int (nI i)), some (.int x4), some (.int (nI (gT σ))), some (.int (gLn σ (gT σ))), some (.int (gTo σ (gT σ))), some (.int (unT σ (gT σ))), some (.ref og), some (.ref mny), some (.int (anyT σ (gT σ))), some (.int (sumT (hb σ) 8)), some (.int (sumT (atR σ) 8)), some (.int (rdT σ 8)), none, none, none, none, none, none, none, none]) (st' := [.int (rdT σ 8)]) (by decide +kernel) rfl ?_
            refine V.if_eq hF (off := 34) (tgt := 779) (by decide +kernel) (by decide) (fun b3 => ?_) (fun b3 => ?_)
            · rw [h1] at b3
              exact absurd b3 (by decide +kernel)
            · skip
              exact rest
end Lz
