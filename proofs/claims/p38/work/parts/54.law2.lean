/-! ===== the law's round: the tablets ===== -/
section Lx
variable {G : Gt} {F : Ft} {Q : State → Prop} {A : Nat → Nat} {q : QA} {σ : Sg} {S : Int} {og mny sb i : Nat} {x4 : Int32}
set_option maxHeartbeats 8000000 in
/-- what persons have on tablet t: 0 together, and whether all have 0 -/
theorem law_has (hG : GOk G) (hF : Ok G F RL cL_law 23 (some .boolean)) (hRm : fR F = room_1) (hO : SO A q) (hR : RI σ) (hA : Am σ S) (hS6 : S ≤ 1000000) (h0 : 0 ≤ S) (hy : gy σ ≤ 100000) (h8 : gT σ ≤ 8) {K1 K2 t : Nat} (ht : t < gT σ) {hh : Hp} (hW : WD A q σ hh)
    (kend : ∀ (L15 L16 L17 L18 L19 L20 L21 L22 : Option Value), V G F Q K1 K2 186 [some (.ref sb), some (.ref (A 0)), some (.ref (qo q)), some (.int (nI i)), some (.int x4), some (.int (nI (gT σ))), some (.int (gLn σ t + nI (gn σ t))), some (.int (gTo σ t)), some (.int (unT σ t)), some (.ref og), some (.ref mny), some (.int (anyT σ t)), some (.int (nI t)), some (.int (sumT (gbal σ t) 8)), some (.int (evn (gbal σ t) 8)), L15, L16, L17, L18, L19, L20, L21, L22] [] hh) :
    ∀ p, p ≤ 8 → ∀ (L16 L17 L18 L19 L20 L21 L22 : Option Value), V G F Q (K1 + 4 * (8 - p)) (K2 + 24 * (8 - p)) 137 [some (.ref sb), some (.ref (A 0)), some (.ref (qo q)), some (.int (nI i)), some (.int x4), some (.int (nI (gT σ))), some (.int (gLn σ t + nI (gn σ t))), some (.int (gTo σ t)), some (.int (unT σ t)), some (.ref og), some (.ref mny), some (.int (anyT σ t)), some (.int (nI t)), some (.int (sumT (gbal σ t) p)), some (.int (evn (gbal σ t) p)), some (.int (nI p)), L16, L17, L18, L19, L20, L21, L22] [] hh := by
  obtain ⟨P, r, hC, hSm⟩ := hW
  have gA := hC.2.2.1
  refine lp_up 8 fun p hp ph L16 L17 L18 L19 L20 L21 L22 => ?_
  refine V.loc (L' := [some (.ref sb), some (.ref (A 0)), some (.ref (qo q)), some (.int (nI i)), some (.int x4), some (.int (nI (gT σ))), some (.int (gLn σ t + nI (gn σ t))), some (.int (gTo σ t)), some (.int (unT σ t)), some (.ref og), some (.ref mny), some (.int (anyT σ t)), some (.int (nI t)), some (.int (sumT (gbal σ t) p)), some (.int (evn (gbal σ t) p)), some (.int (nI p)), none, none, none, none, none, none, none]) (fun j v hv => by
    match j, hv with
    | 0, hv => exact hv
    | 1, hv => exact hv
    | 2, hv => exact hv
    | 3, hv => exact hv
    | 4, hv => exact hv
    | 5, hv => exact hv
    | 6, hv => exact hv
    | 7, hv => exact hv
    | 8, hv => exact hv
    | 9, hv => exact hv
    | 10, hv => exact hv
    | 11, hv => exact hv
    | 12, hv => exact hv
    | 13, hv => exact hv
    | 14, hv => exact hv
    | 15, hv => exact hv
    | 16, hv => cases hv
    | 17, hv => cases hv
    | 18, hv => cases hv
    | 19, hv => cases hv
    | 20, hv => cases hv
    | 21, hv => cases hv
    | 22, hv => cases hv
    | zz + 23, hv => cases hv) ?_
  refine V.run hF [(.iload 15, 2, .null), (.bipush 8, 2, .int (nI 8))] (pc' := 141) (L' := [some (.ref sb), some (.ref (A 0)), some (.ref (qo q)), some (.int (nI i)), some (.int x4), some (.int (nI (gT σ))), some (.int (gLn σ t + nI (gn σ t))), some (.int (gTo σ t)), some (.int (unT σ t)), some (.ref og), some (.ref mny), some (.int (anyT σ t)), some (.int (nI t)), some (.int (sumT (gbal σ t) p)), some (.int (evn (gbal σ t) p)), some (.int (nI p)), none, none, none, none, none, none, none]) (st' := [.int (nI 8), .int (nI p)]) (by decide +kernel) rfl ?_
  refine V.icmpN_ge (i := p) (j := 8) hF (off := 45) (tgt := 186) (by decide +kernel) (by decide) (by omega) (by omega) (fun z1 => ?_) (fun z1 => ?_)
  · have e8 : p = 8 := by omega
    rw [e8]
    exact V.less (by omega) (by omega) (kend _ _ _ _ _ _ _ _)
  · skip
    refine V.run hF [(.iload 13, 2, .null), (.aload_n 1, 1, .null), (.iload 12, 2, .null), (.iload 15, 2, .null)] (pc' := 151) (L' := [some (.ref sb), some (.ref (A 0)), some (.ref (qo q)), some (.int (nI i)), some (.int x4), some (.int (nI (gT σ))), some (.int (gLn σ t + nI (gn σ t))), some (.int (gTo σ t)), some (.int (unT σ t)), some (.ref og), some (.ref mny), some (.int (anyT σ t)), some (.int (nI t)), some (.int (sumT (gbal σ t) p)), some (.int (evn (gbal σ t) p)), some (.int (nI p)), none, none, none, none, none, none, none]) (st' := [.int (nI p), .int (nI t), .ref (A 0), .int (sumT (gbal σ t) p)]) (by decide +kernel) rfl ?_
    refine V.less (kc' := (K1 + 4 * (7 - p) + 2) + 2) (ks' := (K2 + 24 * (7 - p) + 12) + 12) (by omega) (by omega) ?_
    refine V.callV (As := [.int (nI t), .int (nI p)]) (st := [.int (sumT (gbal σ t) p)]) hG hF k_RL_108 (by decide +kernel) (hp_hasOn hG hC ht z1) gA rfl rfl ⟨by rw [hRm]; decide, by rw [hRm]; decide⟩ (Nat.le_of_ble_eq_true rfl) rfl (fun v h_1 gp1 => ?_) (fun E h9 hx => hx.elim)
    obtain ⟨rfl, he_gp1⟩ := gp1
    rw [he_gp1]
    show V G F _ _ _ 154 [some (.ref sb), some (.ref (A 0)), some (.ref (qo q)), some (.int (nI i)), some (.int x4), some (.int (nI (gT σ))), some (.int (gLn σ t + nI (gn σ t))), some (.int (gTo σ t)), some (.int (unT σ t)), some (.ref og), some (.ref mny), some (.int (anyT σ t)), some (.int (nI t)), some (.int (sumT (gbal σ t) p)), some (.int (evn (gbal σ t) p)), some (.int (nI p)), none, none, none, none, none, none, none] [.int (gbal σ t p), .int (sumT (gbal σ t) p)] hh
    have ee : evn (gbal σ t) (p + 1) = (if evn (gbal σ t) p = 0 then 0 else if gbal σ t p = 0 then 1 else 0) := rfl
    have go := fun (L16 L17 L18 L19 L20 L21 L22 : Option Value) => ph z1 L16 L17 L18 L19 L20 L21 L22
    simp only [ee] at go
    refine V.run hF [(.iadd, 1, .null), (.istore 13, 2, .null), (.iload 14, 2, .null)] (pc' := 159) (L' := [some (.ref sb), some (.ref (A 0)), some (.ref (qo q)), some (.int (nI i)), some (.int x4), some (.int (nI (gT σ))), some (.int (gLn σ t + nI (gn σ t))), some (.int (gTo σ t)), some (.int (unT σ t)), some (.ref og), some (.ref mny), some (.int (anyT σ t)), some (.int (nI t)), some (.int (sumT (gbal σ t) p + gbal σ t p)), some (.int (evn (gbal σ t) p)), some (.int (nI p)), none, none, none, none, none, none, none]) (st' := [.int (evn (gbal σ t) p)]) (by decide +kernel) rfl ?_
    refine V.if_eq hF (off := 18) (tgt := 177) (by decide +kernel) (by decide) (fun z2 => ?_) (fun z2 => ?_)
    · skip
      refine V.run hF [(.iconst 0, 1, .int 0), (.istore 14, 2, .null), (.iinc 15 1, 3, .int 1), (.goto (-46), 3, .null)] (pc' := 137) (L' := [some (.ref sb), some (.ref (A 0)), some (.ref (qo q)), some (.int (nI i)), some (.int x4), some (.int (nI (gT σ))), some (.int (gLn σ t + nI (gn σ t))), some (.int (gTo σ t)), some (.int (unT σ t)), some (.ref og), some (.ref mny), some (.int (anyT σ t)), some (.int (nI t)), some (.int (sumT (gbal σ t) p + gbal σ t p)), some (.int 0), some (.int ((nI p) + 1)), none, none, none, none, none, none, none]) (st' := []) (by decide +kernel) rfl ?_
      rw [nI_1 p]
      simp only [if_pos z2] at go
      exact V.less (by omega) (by omega) (go _ _ _ _ _ _ _)
    · skip
      simp only [if_neg z2] at go
      refine V.run hF [(.aload_n 1, 1, .null), (.iload 12, 2, .null), (.iload 15, 2, .null)] (pc' := 167) (L' := [some (.ref sb), some (.ref (A 0)), some (.ref (qo q)), some (.int (nI i)), some (.int x4), some (.int (nI (gT σ))), some (.int (gLn σ t + nI (gn σ t))), some (.int (gTo σ t)), some (.int (unT σ t)), some (.ref og), some (.ref mny), some (.int (anyT σ t)), some (.int (nI t)), some (.int (sumT (gbal σ t) p + gbal σ t p)), some (.int (evn (gbal σ t) p)), some (.int (nI p)), none, none, none, none, none, none, none]) (st' := [.int (nI p), .int (nI t), .ref (A 0)]) (by decide +kernel) rfl ?_
      refine V.less (kc' := (K1 + 4 * (7 - p)) + 2) (ks' := (K2 + 24 * (7 - p)) + 12) (by omega) (by omega) ?_
      refine V.callV (As := [.int (nI t), .int (nI p)]) (st := []) hG hF k_RL_108 (by decide +kernel) (hp_hasOn hG hC ht z1) gA rfl rfl ⟨by rw [hRm]; decide, by rw [hRm]; decide⟩ (Nat.le_of_ble_eq_true rfl) rfl (fun v h_2 gp2 => ?_) (fun E h9 hx => hx.elim)
      obtain ⟨rfl, he_gp2⟩ := gp2
      rw [he_gp2]
      show V G F _ _ _ 170 [some (.ref sb), some (.ref (A 0)), some (.ref (qo q)), some (.int (nI i)), some (.int x4), some (.int (nI (gT σ))), some (.int (gLn σ t + nI (gn σ t))), some (.int (gTo σ t)), some (.int (unT σ t)), some (.ref og), some (.ref mny), some (.int (anyT σ t)), some (.int (nI t)), some (.int (sumT (gbal σ t) p + gbal σ t p)), some (.int (evn (gbal σ t) p)), some (.int (nI p)), none, none, none, none, none, none, none] [.int (gbal σ t p)] hh
      refine V.if_ne hF (off := 7) (tgt := 177) (by decide +kernel) (by decide) (fun z3 => ?_) (fun z3 => ?_)
      · skip
        refine V.run hF [(.iconst 0, 1, .int 0), (.istore 14, 2, .null), (.iinc 15 1, 3, .int 1), (.goto (-46), 3, .null)] (pc' := 137) (L' := [some (.ref sb), some (.ref (A 0)), some (.ref (qo q)), some (.int (nI i)), some (.int x4), some (.int (nI (gT σ))), some (.int (gLn σ t + nI (gn σ t))), some (.int (gTo σ t)), some (.int (unT σ t)), some (.ref og), some (.ref mny), some (.int (anyT σ t)), some (.int (nI t)), some (.int (sumT (gbal σ t) p + gbal σ t p)), some (.int 0), some (.int ((nI p) + 1)), none, none, none, none, none, none, none]) (st' := []) (by decide +kernel) rfl ?_
        rw [nI_1 p]
        simp only [if_neg z3] at go
        exact V.less (by omega) (by omega) (go _ _ _ _ _ _ _)
      · skip
        refine V.run hF [(.iconst 1, 1, .int 1), (.goto 4, 3, .null), (.istore 14, 2, .null), (.iinc 15 1, 3, .int 1), (.goto (-46), 3, .null)] (pc' := 137) (L' := [some (.ref sb), some (.ref (A 0)), some (.ref (qo q)), some (.int (nI i)), some (.int x4), some (.int (nI (gT σ))), some (.int (gLn σ t + nI (gn σ t))), some (.int (gTo σ t)), some (.int (unT σ t)), some (.ref og), some (.ref mny), some (.int (anyT σ t)), some (.int (nI t)), some (.int (sumT (gbal σ t) p + gbal σ t p)), some (.int 1), some (.int ((nI p) + 1)), none, none, none, none, none, none, none]) (st' := []) (by decide +kernel) rfl ?_
        rw [nI_1 p]
        simp only [if_pos z3] at go
        exact V.less (by omega) (by omega) (go _ _ _ _ _ _ _)
set_option maxHeartbeats 16000000 in
theorem law_tabs (hG : GOk G) (hF : Ok G F RL cL_law 23 (some .boolean)) (hRm : fR F = room_1) (hO : SO A q) (hR : RI σ) (hA : Am σ S) (hS6 : S ≤ 1000000) (h0 : 0 ≤ S) (hy : gy σ ≤ 100000) (h8 : gT σ ≤ 8) (hP : LPl A q σ og mny) {K1 K2 : Nat}
    (kend : ∀ (hh : Hp) (fm : Nat → Int32) (L12 L13 L14 L15 L16 L17 L18 L19 L20 L21 L22 : Option Value), LW A q σ og mny hh (fun a b => gOw σ (nI a) (nI b) (gT σ)) fm → (∀ x, x < gT σ → fm x = nI (gn σ x)) → V G F Q K1 K2 426 [some (.ref sb), some (.ref (A 0)), some (.ref (qo q)), some (.int (nI i)), some (.int x4), some (.int (nI (gT σ))), some (.int (gLn σ (gT σ))), some (.int (gTo σ (gT σ))), some (.int (unT σ (gT σ))), some (.ref og), some (.ref mny), some (.int (anyT σ (gT σ))), L12, L13, L14, L15, L16, L17, L18, L19, L20, L21, L22] [] hh) :
    ∀ t, t ≤ gT σ → ∀ (hh : Hp) (fm : Nat → Int32) (L13 L14 L15 L16 L17 L18 L19 L20 L21 L22 : Option Value), LW A q σ og mny hh (fun a b => gOw σ (nI a) (nI b) t) fm → (∀ x, x < t → fm x = nI (gn σ x)) → V G F Q (K1 + 200 * (8 - t)) (K2 + 1200 * (8 - t)) 100 [some (.ref sb), some (.ref (A 0)), some (.ref (qo q)), some (.int (nI i)), some (.int x4), some (.int (nI (gT σ))), some (.int (gLn σ t)), some (.int (gTo σ t)), some (.int (unT σ t)), some (.ref og), some (.ref mny), some (.int (anyT σ t)), some (.int (nI t)), L13, L14, L15, L16, L17, L18, L19, L20, L21, L22] [] hh := by
  refine lp_up (gT σ) fun t ht ih hh fm L13 L14 L15 L16 L17 L18 L19 L20 L21 L22 hL hfm => ?_
  obtain ⟨⟨P, r, hC, hSm⟩, l2, l3⟩ := id hL
  have gA := hC.2.2.1
  refine V.loc (L' := [some (.ref sb), some (.ref (A 0)), some (.ref (qo q)), some (.int (nI i)), some (.int x4), some (.int (nI (gT σ))), some (.int (gLn σ t)), some (.int (gTo σ t)), some (.int (unT σ t)), some (.ref og), some (.ref mny), some (.int (anyT σ t)), some (.int (nI t)), none, none, none, none, none, none, none, none, none, none]) (fun j v hv => by
    match j, hv with
    | 0, hv => exact hv
    | 1, hv => exact hv
    | 2, hv => exact hv
    | 3, hv => exact hv
    | 4, hv => exact hv
    | 5, hv => exact hv
    | 6, hv => exact hv
    | 7, hv => exact hv
    | 8, hv => exact hv
    | 9, hv => exact hv
    | 10, hv => exact hv
    | 11, hv => exact hv
    | 12, hv => exact hv
    | 13, hv => cases hv
    | 14, hv => cases hv
    | 15, hv => cases hv
    | 16, hv => cases hv
    | 17, hv => cases hv
    | 18, hv => cases hv
    | 19, hv => cases hv
    | 20, hv => cases hv
    | 21, hv => cases hv
    | 22, hv => cases hv
    | zz + 23, hv => cases hv) ?_
  refine V.run hF [(.iload 12, 2, .null), (.iload 5, 2, .null)] (pc' := 104) (L' := [some (.ref sb), some (.ref (A 0)), some (.ref (qo q)), some (.int (nI i)), some (.int x4), some (.int (nI (gT σ))), some (.int (gLn σ t)), some (.int (gTo σ t)), some (.int (unT σ t)), some (.ref og), some (.ref mny), some (.int (anyT σ t)), some (.int (nI t)), none, none, none, none, none, none, none, none, none, none]) (st' := [.int (nI (gT σ)), .int (nI t)]) (by decide +kernel) rfl ?_
  refine V.icmpN_ge (i := t) (j := gT σ) hF (off := 322) (tgt := 426) (by decide +kernel) (by decide) (by omega) (by omega) (fun z1 => ?_) (fun z1 => ?_)
  · have e8 : t = gT σ := by omega
    rw [e8] at hL hfm ⊢
    exact V.less (by omega) (by omega) (kend _ _ _ _ _ _ _ _ _ _ _ _ _ hL hfm)
  · skip
    have h12 := hR.2.2.2 t z1
    refine V.run hF [(.aload 10, 2, .null), (.iload 12, 2, .null), (.aload_n 1, 1, .null), (.iload 12, 2, .null)] (pc' := 114) (L' := [some (.ref sb), some (.ref (A 0)), some (.ref (qo q)), some (.int (nI i)), some (.int x4), some (.int (nI (gT σ))), some (.int (gLn σ t)), some (.int (gTo σ t)), some (.int (unT σ t)), some (.ref og), some (.ref mny), some (.int (anyT σ t)), some (.int (nI t)), none, none, none, none, none, none, none, none, none, none]) (st' := [.int (nI t), .ref (A 0), .int (nI t), .ref mny]) (by decide +kernel) rfl ?_
    refine V.less (kc' := (K1 + 200 * (7 - t) + 198) + 2) (ks' := (K2 + 1200 * (7 - t) + 1188) + 12) (by omega) (by omega) ?_
    refine V.callV (As := [.int (nI t)]) (st := [.int (nI t), .ref mny]) hG hF k_RL_105 (by decide +kernel) (hp_linesOf hG hC z1) gA rfl rfl ⟨by rw [hRm]; decide, by rw [hRm]; decide⟩ (Nat.le_of_ble_eq_true rfl) rfl (fun v h_1 gp1 => ?_) (fun E h9 hx => hx.elim)
    obtain ⟨rfl, he_gp1⟩ := gp1
    rw [he_gp1]
    show V G F _ _ _ 117 [some (.ref sb), some (.ref (A 0)), some (.ref (qo q)), some (.int (nI i)), some (.int x4), some (.int (nI (gT σ))), some (.int (gLn σ t)), some (.int (gTo σ t)), some (.int (unT σ t)), some (.ref og), some (.ref mny), some (.int (anyT σ t)), some (.int (nI t)), none, none, none, none, none, none, none, none, none, none] [.int (nI (gn σ t)), .int (nI t), .ref mny] hh
    refine V.iastN (j := t) hG hF (by decide +kernel) l3 (by omega) (by first | decide | omega) ?_
    obtain ⟨h_2, gh2⟩ : ∃ z : Hp, z = hset hh mny (.inl (0, gT σ, .inl (upd fm t (nI (gn σ t))))) := ⟨_, rfl⟩
    refine V.hp gh2 ?_
    have gk2 : ∀ zq : Nat, zq ≠ mny → h_2 zq = hh zq := fun zq hq => by rw [gh2]; exact hset_ne hq
    have gs2 : h_2 mny = some (.inl (0, gT σ, .inl (upd fm t (nI (gn σ t))))) := by rw [gh2]; exact hset_eq
    refine V.run hF [(.iload 6, 2, .null), (.aload 10, 2, .null), (.iload 12, 2, .null)] (pc' := 124) (L' := [some (.ref sb), some (.ref (A 0)), some (.ref (qo q)), some (.int (nI i)), some (.int x4), some (.int (nI (gT σ))), some (.int (gLn σ t)), some (.int (gTo σ t)), some (.int (unT σ t)), some (.ref og), some (.ref mny), some (.int (anyT σ t)), some (.int (nI t)), none, none, none, none, none, none, none, none, none, none]) (st' := [.int (nI t), .ref mny, .int (gLn σ t)]) (by decide +kernel) rfl ?_
    refine V.ialdN (j := t) hG hF (by decide +kernel) gs2 (by omega) (by first | decide | omega) ?_
    have hL5 := hL.mn hP gs2 (Exw.of (fun x hx => gk2 x hx))
    have hfm5 : ∀ x, x < t + 1 → upd fm t (nI (gn σ t)) x = nI (gn σ x) := fun x hx => by
      by_cases e : x = t
      · rw [e, upd_s]
      · rw [upd_n e]
        exact hfm x (by omega)
    rw [upd_s]
    refine V.run hF [(.iadd, 1, .null), (.istore 6, 2, .null), (.iconst 0, 1, .int 0), (.istore 13, 2, .null), (.iconst 1, 1, .int 1), (.istore 14, 2, .null), (.iconst 0, 1, .int (nI 0)), (.istore 15, 2, .null)] (pc' := 137) (L' := [some (.ref sb), some (.ref (A 0)), some (.ref (qo q)), some (.int (nI i)), some (.int x4), some (.int (nI (gT σ))), some (.int (gLn σ t + nI (gn σ t))), some (.int (gTo σ t)), some (.int (unT σ t)), some (.ref og), some (.ref mny), some (.int (anyT σ t)), some (.int (nI t)), some (.int 0), some (.int 1), some (.int (nI 0)), none, none, none, none, none, none, none]) (st' := []) (by decide +kernel) rfl ?_
    have hr := law_has hG hF hRm hO hR hA hS6 h0 hy h8 (Q := Q) (sb := sb) (i := i) (x4 := x4) (og := og) (mny := mny) (K1 := K1 + 200 * (7 - t) + 166) (K2 := K2 + 1200 * (7 - t) + 996) z1 hL5.1 (fun L15 L16 L17 L18 L19 L20 L21 L22 => ?_) 0 (Nat.zero_le _)
    · exact V.less (by omega) (by omega) (hr _ _ _ _ _ _ _)
    · obtain ⟨⟨P5, r5, hC5, hSm5⟩, -, -⟩ := id hL5
      have gA5 := hC5.2.2.1
      refine V.loc (L' := [some (.ref sb), some (.ref (A 0)), some (.ref (qo q)), some (.int (nI i)), some (.int x4), some (.int (nI (gT σ))), some (.int (gLn σ t + nI (gn σ t))), some (.int (gTo σ t)), some (.int (unT σ t)), some (.ref og), some (.ref mny), some (.int (anyT σ t)), some (.int (nI t)), some (.int (sumT (gbal σ t) 8)), some (.int (evn (gbal σ t) 8)), none, none, none, none, none, none, none, none]) (fun j v hv => by
        match j, hv with
        | 0, hv => exact hv
        | 1, hv => exact hv
        | 2, hv => exact hv
        | 3, hv => exact hv
        | 4, hv => exact hv
        | 5, hv => exact hv
        | 6, hv => exact hv
        | 7, hv => exact hv
        | 8, hv => exact hv
        | 9, hv => exact hv
        | 10, hv => exact hv
        | 11, hv => exact hv
        | 12, hv => exact hv
        | 13, hv => exact hv
        | 14, hv => exact hv
        | 15, hv => cases hv
        | 16, hv => cases hv
        | 17, hv => cases hv
        | 18, hv => cases hv
        | 19, hv => cases hv
        | 20, hv => cases hv
        | 21, hv => cases hv
        | 22, hv => cases hv
        | zz + 23, hv => cases hv) ?_
      refine V.run hF [(.aload_n 1, 1, .null), (.iload 12, 2, .null)] (pc' := 189) (L' := [some (.ref sb), some (.ref (A 0)), some (.ref (qo q)), some (.int (nI i)), some (.int x4), some (.int (nI (gT σ))), some (.int (gLn σ t + nI (gn σ t))), some (.int (gTo σ t)), some (.int (unT σ t)), some (.ref og), some (.ref mny), some (.int (anyT σ t)), some (.int (nI t)), some (.int (sumT (gbal σ t) 8)), some (.int (evn (gbal σ t) 8)), none, none, none, none, none, none, none, none]) (st' := [.int (nI t), .ref (A 0)]) (by decide +kernel) rfl ?_
      refine V.less (kc' := (K1 + 200 * (7 - t) + 164) + 2) (ks' := (K2 + 1200 * (7 - t) + 984) + 12) (by omega) (by omega) ?_
      refine V.callV (As := [.int (nI t)]) (st := []) hG hF k_RL_111 (by decide +kernel) (hp_linesSmoothed hG hC5 z1) gA5 rfl rfl ⟨by rw [hRm]; decide, by rw [hRm]; decide⟩ (Nat.le_of_ble_eq_true rfl) rfl (fun v h6 hp6 => ?_) (fun E h9 hx => hx.elim)
      obtain ⟨hv6, P6, hC6, hk6⟩ := hp6
      have hL6 := hL5.kp hP hSm5 hC5 hO hC6 hk6
      have gA6 := hC6.2.2.1
      rw [hv6]
      show V G F _ _ _ 192 [some (.ref sb), some (.ref (A 0)), some (.ref (qo q)), some (.int (nI i)), some (.int x4), some (.int (nI (gT σ))), some (.int (gLn σ t + nI (gn σ t))), some (.int (gTo σ t)), some (.int (unT σ t)), some (.ref og), some (.ref mny), some (.int (anyT σ t)), some (.int (nI t)), some (.int (sumT (gbal σ t) 8)), some (.int (evn (gbal σ t) 8)), none, none, none, none, none, none, none, none] [.int (lf σ t)] h6
      refine V.run hF [(.istore 15, 2, .null), (.aload_n 1, 1, .null), (.iload 12, 2, .null)] (pc' := 197) (L' := [some (.ref sb), some (.ref (A 0)), some (.ref (qo q)), some (.int (nI i)), some (.int x4), some (.int (nI (gT σ))), some (.int (gLn σ t + nI (gn σ t))), some (.int (gTo σ t)), some (.int (unT σ t)), some (.ref og), some (.ref mny), some (.int (anyT σ t)), some (.int (nI t)), some (.int (sumT (gbal σ t) 8)), some (.int (evn (gbal σ t) 8)), some (.int (lf σ t)), none, none, none, none, none, none, none]) (st' := [.int (nI t), .ref (A 0)]) (by decide +kernel) rfl ?_
      refine V.less (kc' := (K1 + 200 * (7 - t) + 162) + 2) (ks' := (K2 + 1200 * (7 - t) + 972) + 12) (by omega) (by omega) ?_
      refine V.callV (As := [.int (nI t)]) (st := []) hG hF k_RL_114 (by decide +kernel) (hp_years hG hC6 (by omega) z1) gA6 rfl rfl ⟨by rw [hRm]; decide, by rw [hRm]; decide⟩ (Nat.le_of_ble_eq_true rfl) rfl (fun v h_4 gp4 => ?_) (fun E h9 hx => hx.elim)
      obtain ⟨rfl, he_gp4⟩ := gp4
      rw [he_gp4]
      show V G F _ _ _ 200 [some (.ref sb), some (.ref (A 0)), some (.ref (qo q)), some (.int (nI i)), some (.int x4), some (.int (nI (gT σ))), some (.int (gLn σ t + nI (gn σ t))), some (.int (gTo σ t)), some (.int (unT σ t)), some (.ref og), some (.ref mny), some (.int (anyT σ t)), some (.int (nI t)), some (.int (sumT (gbal σ t) 8)), some (.int (evn (gbal σ t) 8)), some (.int (lf σ t)), none, none, none, none, none, none, none] [.int (ytm σ t 10 0)] h6
      have f0 : sumT (gbal σ t) 8 = 0 := bal_sum (gn σ t) (fun j hj => by
        obtain ⟨b1, b2, -, b3⟩ := hR.2.2.1 t j z1 hj
        exact ⟨b1, b2, b3⟩)
      obtain ⟨f1, f2⟩ : ¬ lf σ t < -1 ∧ ¬ nI 7 < lf σ t := by
        rcases lf_7 hR hA hS6 z1 with w | ⟨k, k7, w⟩
        · rw [w]
          decide +kernel
        · rw [w]
          refine ⟨fun y => ?_, fun y => ?_⟩
          · rw [Int32.lt_iff_toInt_lt, nI_toInt (by omega), show (-1 : Int32).toInt = -1 from by decide +kernel] at y
            omega
          · have := (nI_ltI (a := 7) (b := k) (by decide) (by omega)).mp y
            omega
      have f3 : lf σ t = 0 ↔ evn (gbal σ t) 8 = 1 := (lf_0 hR hA hS6 z1).trans (evn_iff 8).2.symm
      have f4 := (evn_iff (f := gbal σ t) 8).1
      obtain ⟨y1, y2, y3, y4⟩ : ¬ ytm σ t 10 0 = 0 ∧ ¬ ytm σ t 10 0 < -1 ∧ ¬ nI 10 < ytm σ t 10 0 ∧ (¬ ytm σ t 10 0 ≤ 0 → gce σ t = 0) := by
        rcases ytm_k (σ := σ) (t := t) 10 0 (by omega) with w | ⟨m, m1, m2, w, w2⟩
        · rw [w]
          exact ⟨by decide +kernel, by decide +kernel, by decide +kernel, fun y => absurd (by decide +kernel) y⟩
        · rw [w]
          refine ⟨fun y => ?_, fun y => ?_, fun y => ?_, fun _ => w2⟩
          · have := nI_e (b := 0) (by omega) (by decide) y
            omega
          · rw [Int32.lt_iff_toInt_lt, nI_toInt (by omega), show (-1 : Int32).toInt = -1 from by decide +kernel] at y
            omega
          · have := (nI_ltI (a := 10) (b := m) (by decide) (by omega)).mp y
            omega
      obtain ⟨-, -, l36⟩ := id hL6
      -- from 287 on: the lines
      have good : ∀ (L13 L14 L15 L16 L17 L18 L19 L20 L21 L22 : Option Value), V G F Q (K1 + 200 * (7 - t) + 150) (K2 + 1200 * (7 - t) + 900) 287 [some (.ref sb), some (.ref (A 0)), some (.ref (qo q)), some (.int (nI i)), some (.int x4), some (.int (nI (gT σ))), some (.int (gLn σ t + nI (gn σ t))), some (.int (gTo σ t)), some (.int (unT σ t)), some (.ref og), some (.ref mny), some (.int (anyT σ t)), some (.int (nI t)), L13, L14, L15, L16, L17, L18, L19, L20, L21, L22] [] h6 := by
        intro L13 L14 L15 L16 L17 L18 L19 L20 L21 L22
        refine V.loc (L' := [some (.ref sb), some (.ref (A 0)), some (.ref (qo q)), some (.int (nI i)), some (.int x4), some (.int (nI (gT σ))), some (.int (gLn σ t + nI (gn σ t))), some (.int (gTo σ t)), some (.int (unT σ t)), some (.ref og), some (.ref mny), some (.int (anyT σ t)), some (.int (nI t)), none, none, none, none, none, none, none, none, none, none]) (fun j v hv => by
          match j, hv with
          | 0, hv => exact hv
          | 1, hv => exact hv
          | 2, hv => exact hv
          | 3, hv => exact hv
          | 4, hv => exact hv
          | 5, hv => exact hv
          | 6, hv => exact hv
          | 7, hv => exact hv
          | 8, hv => exact hv
          | 9, hv => exact hv
          | 10, hv => exact hv
          | 11, hv => exact hv
          | 12, hv => exact hv
          | 13, hv => cases hv
          | 14, hv => cases hv
          | 15, hv => cases hv
          | 16, hv => cases hv
          | 17, hv => cases hv
          | 18, hv => cases hv
          | 19, hv => cases hv
          | 20, hv => cases hv
          | 21, hv => cases hv
          | 22, hv => cases hv
          | zz + 23, hv => cases hv) ?_
        refine V.run hF [(.iconst 0, 1, .int (nI 0)), (.istore 17, 2, .null)] (pc' := 290) (L' := [some (.ref sb), some (.ref (A 0)), some (.ref (qo q)), some (.int (nI i)), some (.int x4), some (.int (nI (gT σ))), some (.int (gLn σ t + nI (gn σ t))), some (.int (gTo σ t)), some (.int (unT σ t)), some (.ref og), some (.ref mny), some (.int (anyT σ t)), some (.int (nI t)), none, none, none, none, some (.int (nI 0)), none, none, none, none, none]) (st' := []) (by decide +kernel) rfl ?_
        have hl := law_lines hG hF hRm hO hR hA hS6 h0 hy h8 hP (Q := Q) (sb := sb) (i := i) (x4 := x4) (K1 := K1 + 200 * (7 - t)) (K2 := K2 + 1200 * (7 - t)) z1 hfm5 (fun h7 L13 L14 L15 L16 L17 L18 L19 L20 L21 L22 hL7 => ?_) 0 (Nat.zero_le _) h6
        · simp only [show sm (gM σ t) 0 = 0 from rfl, show unl σ t 0 = 0 from rfl, Int32.add_zero, if_true] at hl
          exact V.less (by omega) (by omega) (hl _ _ _ _ _ _ _ _ _ (hL6.cg fun a b _ _ => valp_0 a b))
        · skip
          refine V.loc (L' := [some (.ref sb), some (.ref (A 0)), some (.ref (qo q)), some (.int (nI i)), some (.int x4), some (.int (nI (gT σ))), some (.int (gLn σ t + nI (gn σ t))), some (.int (gTo σ (t + 1))), some (.int (unT σ (t + 1))), some (.ref og), some (.ref mny), some (.int (anyT σ (t + 1))), some (.int (nI t)), none, none, none, none, none, none, none, none, none, none]) (fun j v hv => by
            match j, hv with
            | 0, hv => exact hv
            | 1, hv => exact hv
            | 2, hv => exact hv
            | 3, hv => exact hv
            | 4, hv => exact hv
            | 5, hv => exact hv
            | 6, hv => exact hv
            | 7, hv => exact hv
            | 8, hv => exact hv
            | 9, hv => exact hv
            | 10, hv => exact hv
            | 11, hv => exact hv
            | 12, hv => exact hv
            | 13, hv => cases hv
            | 14, hv => cases hv
            | 15, hv => cases hv
            | 16, hv => cases hv
            | 17, hv => cases hv
            | 18, hv => cases hv
            | 19, hv => cases hv
            | 20, hv => cases hv
            | 21, hv => cases hv
            | 22, hv => cases hv
            | zz + 23, hv => cases hv) ?_
          refine V.run hF [(.iinc 12 1, 3, .int 1), (.goto (-323), 3, .null)] (pc' := 100) (L' := [some (.ref sb), some (.ref (A 0)), some (.ref (qo q)), some (.int (nI i)), some (.int x4), some (.int (nI (gT σ))), some (.int (gLn σ t + nI (gn σ t))), some (.int (gTo σ (t + 1))), some (.int (unT σ (t + 1))), some (.ref og), some (.ref mny), some (.int (anyT σ (t + 1))), some (.int ((nI t) + 1)), none, none, none, none, none, none, none, none, none, none]) (st' := []) (by decide +kernel) rfl ?_
          rw [nI_1 t]
          exact V.less (by omega) (by omega) (ih z1 h7 _ _ _ _ _ _ _ _ _ _ _ hL7 hfm5)
      refine V.run hF [(.istore 16, 2, .null), (.iload 13, 2, .null)] (pc' := 204) (L' := [some (.ref sb), some (.ref (A 0)), some (.ref (qo q)), some (.int (nI i)), some (.int x4), some (.int (nI (gT σ))), some (.int (gLn σ t + nI (gn σ t))), some (.int (gTo σ t)), some (.int (unT σ t)), some (.ref og), some (.ref mny), some (.int (anyT σ t)), some (.int (nI t)), some (.int (sumT (gbal σ t) 8)), some (.int (evn (gbal σ t) 8)), some (.int (lf σ t)), some (.int (ytm σ t 10 0)), none, none, none, none, none, none]) (st' := [.int (sumT (gbal σ t) 8)]) (by decide +kernel) rfl ?_
      refine V.if_ne hF (off := 81) (tgt := 285) (by decide +kernel) (by decide) (fun b1 => ?_) (fun b1 => ?_)
      · exact absurd f0 b1
      · skip
        refine V.run hF [(.aload 10, 2, .null), (.iload 12, 2, .null)] (pc' := 211) (L' := [some (.ref sb), some (.ref (A 0)), some (.ref (qo q)), some (.int (nI i)), some (.int x4), some (.int (nI (gT σ))), some (.int (gLn σ t + nI (gn σ t))), some (.int (gTo σ t)), some (.int (unT σ t)), some (.ref og), some (.ref mny), some (.int (anyT σ t)), some (.int (nI t)), some (.int (sumT (gbal σ t) 8)), some (.int (evn (gbal σ t) 8)), some (.int (lf σ t)), some (.int (ytm σ t 10 0)), none, none, none, none, none, none]) (st' := [.int (nI t), .ref mny]) (by decide +kernel) rfl ?_
        refine V.ialdN (j := t) hG hF (by decide +kernel) l36 (by omega) (by first | decide | omega) ?_
        rw [upd_s]
        refine V.if_lt hF (off := 73) (tgt := 285) (by decide +kernel) (by decide) (fun b1 => ?_) (fun b1 => ?_)
        · exact absurd b1 (nI_pos (by omega))
        · skip
          refine V.run hF [(.aload 10, 2, .null), (.iload 12, 2, .null)] (pc' := 219) (L' := [some (.ref sb), some (.ref (A 0)), some (.ref (qo q)), some (.int (nI i)), some (.int x4), some (.int (nI (gT σ))), some (.int (gLn σ t + nI (gn σ t))), some (.int (gTo σ t)), some (.int (unT σ t)), some (.ref og), some (.ref mny), some (.int (anyT σ t)), some (.int (nI t)), some (.int (sumT (gbal σ t) 8)), some (.int (evn (gbal σ t) 8)), some (.int (lf σ t)), some (.int (ytm σ t 10 0)), none, none, none, none, none, none]) (st' := [.int (nI t), .ref mny]) (by decide +kernel) rfl ?_
          refine V.ialdN (j := t) hG hF (by decide +kernel) l36 (by omega) (by first | decide | omega) ?_
          rw [upd_s]
          refine V.run hF [(.bipush 12, 2, .int (nI 12))] (pc' := 222) (L' := [some (.ref sb), some (.ref (A 0)), some (.ref (qo q)), some (.int (nI i)), some (.int x4), some (.int (nI (gT σ))), some (.int (gLn σ t + nI (gn σ t))), some (.int (gTo σ t)), some (.int (unT σ t)), some (.ref og), some (.ref mny), some (.int (anyT σ t)), some (.int (nI t)), some (.int (sumT (gbal σ t) 8)), some (.int (evn (gbal σ t) 8)), some (.int (lf σ t)), some (.int (ytm σ t 10 0)), none, none, none, none, none, none]) (st' := [.int (nI 12), .int (nI (gn σ t))]) (by decide +kernel) rfl ?_
          refine V.icmpN_gt (i := gn σ t) (j := 12) hF (off := 63) (tgt := 285) (by decide +kernel) (by decide) (by omega) (by omega) (fun b1 => ?_) (fun b1 => ?_)
          · exact absurd b1 (by omega)
          · skip
            refine V.run hF [(.iload 15, 2, .null), (.iconst (-1), 1, .int (-1))] (pc' := 228) (L' := [some (.ref sb), some (.ref (A 0)), some (.ref (qo q)), some (.int (nI i)), some (.int x4), some (.int (nI (gT σ))), some (.int (gLn σ t + nI (gn σ t))), some (.int (gTo σ t)), some (.int (unT σ t)), some (.ref og), some (.ref mny), some (.int (anyT σ t)), some (.int (nI t)), some (.int (sumT (gbal σ t) 8)), some (.int (evn (gbal σ t) 8)), some (.int (lf σ t)), some (.int (ytm σ t 10 0)), none, none, none, none, none, none]) (st' := [.int (-1), .int (lf σ t)]) (by decide +kernel) rfl ?_
            refine V.icmp_lt hF (off := 57) (tgt := 285) (by decide +kernel) (by decide) (fun b1 => ?_) (fun b1 => ?_)
            · exact absurd b1 f1
            · skip
              refine V.run hF [(.iload 15, 2, .null), (.bipush 7, 2, .int (nI 7))] (pc' := 235) (L' := [some (.ref sb), some (.ref (A 0)), some (.ref (qo q)), some (.int (nI i)), some (.int x4), some (.int (nI (gT σ))), some (.int (gLn σ t + nI (gn σ t))), some (.int (gTo σ t)), some (.int (unT σ t)), some (.ref og), some (.ref mny), some (.int (anyT σ t)), some (.int (nI t)), some (.int (sumT (gbal σ t) 8)), some (.int (evn (gbal σ t) 8)), some (.int (lf σ t)), some (.int (ytm σ t 10 0)), none, none, none, none, none, none]) (st' := [.int (nI 7), .int (lf σ t)]) (by decide +kernel) rfl ?_
              refine V.icmp_gt hF (off := 50) (tgt := 285) (by decide +kernel) (by decide) (fun b1 => ?_) (fun b1 => ?_)
              · exact absurd b1 f2
              · skip
                refine V.run hF [(.iload 15, 2, .null)] (pc' := 240) (L' := [some (.ref sb), some (.ref (A 0)), some (.ref (qo q)), some (.int (nI i)), some (.int x4), some (.int (nI (gT σ))), some (.int (gLn σ t + nI (gn σ t))), some (.int (gTo σ t)), some (.int (unT σ t)), some (.ref og), some (.ref mny), some (.int (anyT σ t)), some (.int (nI t)), some (.int (sumT (gbal σ t) 8)), some (.int (evn (gbal σ t) 8)), some (.int (lf σ t)), some (.int (ytm σ t 10 0)), none, none, none, none, none, none]) (st' := [.int (lf σ t)]) (by decide +kernel) rfl ?_
                have untl : V G F Q (K1 + 200 * (7 - t) + 162) (K2 + 1200 * (7 - t) + 972) 253 [some (.ref sb), some (.ref (A 0)), some (.ref (qo q)), some (.int (nI i)), some (.int x4), some (.int (nI (gT σ))), some (.int (gLn σ t + nI (gn σ t))), some (.int (gTo σ t)), some (.int (unT σ t)), some (.ref og), some (.ref mny), some (.int (anyT σ t)), some (.int (nI t)), some (.int (sumT (gbal σ t) 8)), some (.int (evn (gbal σ t) 8)), some (.int (lf σ t)), some (.int (ytm σ t 10 0)), none, none, none, none, none, none] [] h6 := by
                  refine V.run hF [(.iload 16, 2, .null)] (pc' := 255) (L' := [some (.ref sb), some (.ref (A 0)), some (.ref (qo q)), some (.int (nI i)), some (.int x4), some (.int (nI (gT σ))), some (.int (gLn σ t + nI (gn σ t))), some (.int (gTo σ t)), some (.int (unT σ t)), some (.ref og), some (.ref mny), some (.int (anyT σ t)), some (.int (nI t)), some (.int (sumT (gbal σ t) 8)), some (.int (evn (gbal σ t) 8)), some (.int (lf σ t)), some (.int (ytm σ t 10 0)), none, none, none, none, none, none]) (st' := [.int (ytm σ t 10 0)]) (by decide +kernel) rfl ?_
                  refine V.if_eq hF (off := 30) (tgt := 285) (by decide +kernel) (by decide) (fun b1 => ?_) (fun b1 => ?_)
                  · exact absurd b1 y1
                  · skip
                    refine V.run hF [(.iload 16, 2, .null), (.iconst (-1), 1, .int (-1))] (pc' := 261) (L' := [some (.ref sb), some (.ref (A 0)), some (.ref (qo q)), some (.int (nI i)), some (.int x4), some (.int (nI (gT σ))), some (.int (gLn σ t + nI (gn σ t))), some (.int (gTo σ t)), some (.int (unT σ t)), some (.ref og), some (.ref mny), some (.int (anyT σ t)), some (.int (nI t)), some (.int (sumT (gbal σ t) 8)), some (.int (evn (gbal σ t) 8)), some (.int (lf σ t)), some (.int (ytm σ t 10 0)), none, none, none, none, none, none]) (st' := [.int (-1), .int (ytm σ t 10 0)]) (by decide +kernel) rfl ?_
                    refine V.icmp_lt hF (off := 24) (tgt := 285) (by decide +kernel) (by decide) (fun b1 => ?_) (fun b1 => ?_)
                    · exact absurd b1 y2
                    · skip
                      refine V.run hF [(.iload 16, 2, .null), (.bipush 10, 2, .int (nI 10))] (pc' := 268) (L' := [some (.ref sb), some (.ref (A 0)), some (.ref (qo q)), some (.int (nI i)), some (.int x4), some (.int (nI (gT σ))), some (.int (gLn σ t + nI (gn σ t))), some (.int (gTo σ t)), some (.int (unT σ t)), some (.ref og), some (.ref mny), some (.int (anyT σ t)), some (.int (nI t)), some (.int (sumT (gbal σ t) 8)), some (.int (evn (gbal σ t) 8)), some (.int (lf σ t)), some (.int (ytm σ t 10 0)), none, none, none, none, none, none]) (st' := [.int (nI 10), .int (ytm σ t 10 0)]) (by decide +kernel) rfl ?_
                      refine V.icmp_gt hF (off := 17) (tgt := 285) (by decide +kernel) (by decide) (fun b1 => ?_) (fun b1 => ?_)
                      · exact absurd b1 y3
                      · skip
                        refine V.run hF [(.iload 16, 2, .null)] (pc' := 273) (L' := [some (.ref sb), some (.ref (A 0)), some (.ref (qo q)), some (.int (nI i)), some (.int x4), some (.int (nI (gT σ))), some (.int (gLn σ t + nI (gn σ t))), some (.int (gTo σ t)), some (.int (unT σ t)), some (.ref og), some (.ref mny), some (.int (anyT σ t)), some (.int (nI t)), some (.int (sumT (gbal σ t) 8)), some (.int (evn (gbal σ t) 8)), some (.int (lf σ t)), some (.int (ytm σ t 10 0)), none, none, none, none, none, none]) (st' := [.int (ytm σ t 10 0)]) (by decide +kernel) rfl ?_
                        refine V.if_le hF (off := 14) (tgt := 287) (by decide +kernel) (by decide) (fun b1 => ?_) (fun b1 => ?_)
                        · exact V.less (by omega) (by omega) (good _ _ _ _ _ _ _ _ _ _)
                        · skip
                          refine V.run hF [(.aload_n 1, 1, .null), (.iload 12, 2, .null)] (pc' := 279) (L' := [some (.ref sb), some (.ref (A 0)), some (.ref (qo q)), some (.int (nI i)), some (.int x4), some (.int (nI (gT σ))), some (.int (gLn σ t + nI (gn σ t))), some (.int (gTo σ t)), some (.int (unT σ t)), some (.ref og), some (.ref mny), some (.int (anyT σ t)), some (.int (nI t)), some (.int (sumT (gbal σ t) 8)), some (.int (evn (gbal σ t) 8)), some (.int (lf σ t)), some (.int (ytm σ t 10 0)), none, none, none, none, none, none]) (st' := [.int (nI t), .ref (A 0)]) (by decide +kernel) rfl ?_
                          refine V.less (kc' := (K1 + 200 * (7 - t) + 160) + 2) (ks' := (K2 + 1200 * (7 - t) + 960) + 12) (by omega) (by omega) ?_
                          refine V.callV (As := [.int (nI t)]) (st := []) hG hF k_RL_117 (by decide +kernel) (hp_isInCellar hG hC6 hR z1) gA6 rfl rfl ⟨by rw [hRm]; decide, by rw [hRm]; decide⟩ (Nat.le_of_ble_eq_true rfl) rfl (fun v h_5 gp5 => ?_) (fun E h9 hx => hx.elim)
                          obtain ⟨rfl, he_gp5⟩ := gp5
                          rw [he_gp5]
                          show V G F _ _ _ 282 [some (.ref sb), some (.ref (A 0)), some (.ref (qo q)), some (.int (nI i)), some (.int x4), some (.int (nI (gT σ))), some (.int (gLn σ t + nI (gn σ t))), some (.int (gTo σ t)), some (.int (unT σ t)), some (.ref og), some (.ref mny), some (.int (anyT σ t)), some (.int (nI t)), some (.int (sumT (gbal σ t) 8)), some (.int (evn (gbal σ t) 8)), some (.int (lf σ t)), some (.int (ytm σ t 10 0)), none, none, none, none, none, none] [.int (gce σ t)] h6
                          refine V.if_eq hF (off := 5) (tgt := 287) (by decide +kernel) (by decide) (fun b2 => ?_) (fun b2 => ?_)
                          · exact V.less (by omega) (by omega) (good _ _ _ _ _ _ _ _ _ _)
                          · skip
                            exact absurd (y4 b1) b2
                refine V.if_ne hF (off := 7) (tgt := 247) (by decide +kernel) (by decide) (fun b1 => ?_) (fun b1 => ?_)
                · have ev : evn (gbal σ t) 8 = 0 := f4.resolve_right fun w => b1 (f3.mpr w)
                  rw [ev]
                  refine V.run hF [(.iconst 0, 1, .int 0), (.iload 14, 2, .null)] (pc' := 250) (L' := [some (.ref sb), some (.ref (A 0)), some (.ref (qo q)), some (.int (nI i)), some (.int x4), some (.int (nI (gT σ))), some (.int (gLn σ t + nI (gn σ t))), some (.int (gTo σ t)), some (.int (unT σ t)), some (.ref og), some (.ref mny), some (.int (anyT σ t)), some (.int (nI t)), some (.int (sumT (gbal σ t) 8)), some (.int 0), some (.int (lf σ t)), some (.int (ytm σ t 10 0)), none, none, none, none, none, none]) (st' := [.int 0, .int 0]) (by decide +kernel) rfl ?_
                  refine V.icmp_ne hF (off := 35) (tgt := 285) (by decide +kernel) (by decide) (fun b2 => ?_) (fun b2 => ?_)
                  · exact absurd rfl b2
                  · skip
                    rw [ev] at untl
                    exact untl
                · skip
                  have ev : evn (gbal σ t) 8 = 1 := f3.mp b1
                  rw [ev]
                  refine V.run hF [(.iconst 1, 1, .int 1), (.goto 4, 3, .null), (.iload 14, 2, .null)] (pc' := 250) (L' := [some (.ref sb), some (.ref (A 0)), some (.ref (qo q)), some (.int (nI i)), some (.int x4), some (.int (nI (gT σ))), some (.int (gLn σ t + nI (gn σ t))), some (.int (gTo σ t)), some (.int (unT σ t)), some (.ref og), some (.ref mny), some (.int (anyT σ t)), some (.int (nI t)), some (.int (sumT (gbal σ t) 8)), some (.int 1), some (.int (lf σ t)), some (.int (ytm σ t 10 0)), none, none, none, none, none, none]) (st' := [.int 1, .int 1]) (by decide +kernel) rfl ?_
                  refine V.icmp_ne hF (off := 35) (tgt := 285) (by decide +kernel) (by decide) (fun b2 => ?_) (fun b2 => ?_)
                  · exact absurd rfl b2
                  · skip
                    rw [ev] at untl
                    exact untl
end Lx
