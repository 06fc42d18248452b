/-! ===== act: lines written, denied, paid, smoothed ===== -/
section Ae
variable {G : Gt} {h : Hp} {A : Nat → Nat} {q : QA} {σ : Sg} {P : PS} {r : Nat → Int32} {S : Int} {Y : Nat} {x : Int32} {F : Ft}
theorem prs_of {σ : Sg} {p : Nat} (hp : p < 8) (hz : ¬ gth σ p = 0) : prs σ (nI p) := ⟨inP_nI hp, by rw [nI_clamp (by omega)]; exact hz⟩
theorem prs_no {σ : Sg} {p : Nat} (hp : p < 8) (hz : gth σ p = 0) : ¬ prs σ (nI p) := fun z => by
  have := z.2
  rw [nI_clamp (by omega)] at this
  exact this hz
set_option maxHeartbeats 8000000 in
theorem ac_write (hG : GOk G) (hF : Ok G F RL cL_act 19 (some .boolean)) (hRm : acR F) (hC : CS h A σ P r) (hS : SM h q σ) (hO : SO A q) (hR : RI σ) (hA : Am σ S) (hgy : gy σ ≤ Y) (h0 : 0 ≤ S) {t p : Nat} (ht : t < gT σ) (hp : p < 8) {L3 L4 L8 : Option Value} :
    V G F (fin G F (actP (A 0) (qo q) S Y) pxN) 400 400 642 [some (.ref (A 0)), some (.ref (qo q)), some (.int x), L3, L4, some (.int (nI t)), some (.ref (qla q t)), some (.int (nI (gn σ t))), L8, some (.int (nI p)), none, none, none, none, none, none, none, none, none] [] h := by
  obtain ⟨s1, s2, s3, ⟨g1, s4, s5⟩, ⟨g2, s6, s7⟩, s8, s9⟩ := id hS
  obtain ⟨-, hT8, -⟩ := id hC
  have t8 : t < 8 := by omega
  have h12 := hR.2.2.2 t ht
  obtain ⟨e7, ⟨⟨g3, w1, w2⟩, w3⟩⟩ := s7 t t8
  rw [gm_in ht] at w1 w2 w3
  refine V.loc (L' := [some (.ref (A 0)), some (.ref (qo q)), some (.int x), none, none, some (.int (nI t)), some (.ref (qla q t)), some (.int (nI (gn σ t))), none, some (.int (nI p)), none, none, none, none, none, none, none, none, none]) (fun j v hv => by
    match j, hv with
    | 0, hv => exact hv
    | 1, hv => exact hv
    | 2, hv => exact hv
    | 3, hv => cases hv
    | 4, hv => cases hv
    | 5, hv => exact hv
    | 6, hv => exact hv
    | 7, hv => exact hv
    | 8, hv => cases hv
    | 9, hv => exact hv
    | 10, hv => cases hv
    | 11, hv => cases hv
    | 12, hv => cases hv
    | 13, hv => cases hv
    | 14, hv => cases hv
    | 15, hv => cases hv
    | 16, hv => cases hv
    | 17, hv => cases hv
    | 18, hv => cases hv
    | zz + 19, hv => cases hv) ?_
  refine V.run hF [(.iload 9, 2, .null), (.iconst 1, 1, .int (nI 1)), (.iadd, 1, .null)] (pc' := 646) (L' := [some (.ref (A 0)), some (.ref (qo q)), some (.int x), none, none, some (.int (nI t)), some (.ref (qla q t)), some (.int (nI (gn σ t))), none, some (.int (nI p)), none, none, none, none, none, none, none, none, none]) (st' := [.int (nI p + nI 1)]) (by decide +kernel) rfl ?_
  rw [nI_add p 1]
  refine V.run hF [(.iload_n 2, 1, .null), (.iconst 5, 1, .int 5), (.ishr, 1, .null), (.bipush 7, 2, .int (nI 7))] (pc' := 651) (L' := [some (.ref (A 0)), some (.ref (qo q)), some (.int x), none, none, some (.int (nI t)), some (.ref (qla q t)), some (.int (nI (gn σ t))), none, some (.int (nI p)), none, none, none, none, none, none, none, none, none]) (st' := [.int (nI 7), .int (x >>> (5 &&& 31)), .int (nI (p + 1))]) (by decide +kernel) rfl ?_
  refine V.callS (As := [.int (x >>> (5 &&& 31)), .int (nI 7)]) (st := [.int (nI (p + 1))]) hG hF k_RL_15 (by decide +kernel) (c_L_below hG (x >>> (5 &&& 31)) (n := 7) (by omega) (by omega)) rfl ⟨by rw [hRm]; decide, by rw [hRm]; decide⟩ (Nat.le_of_ble_eq_true rfl) rfl (fun v h_1 gp1 => ?_) (fun E h9 hx => hx.elim)
  obtain ⟨rfl, he_gp1⟩ := gp1
  rw [he_gp1]
  show V G F _ _ _ 654 [some (.ref (A 0)), some (.ref (qo q)), some (.int x), none, none, some (.int (nI t)), some (.ref (qla q t)), some (.int (nI (gn σ t))), none, some (.int (nI p)), none, none, none, none, none, none, none, none, none] [.int (nI (bl (x >>> (5 &&& 31)) 7)), .int (nI (p + 1))] h
  obtain ⟨k, hk⟩ : ∃ z : Nat, z = bl (x >>> (5 &&& 31)) 7 := ⟨_, rfl⟩
  rw [← hk]
  have lt_k : k < 7 := by rw [hk]; exact Nat.mod_lt _ (by omega)
  refine V.run hF [(.iadd, 1, .null)] (pc' := 655) (L' := [some (.ref (A 0)), some (.ref (qo q)), some (.int x), none, none, some (.int (nI t)), some (.ref (qla q t)), some (.int (nI (gn σ t))), none, some (.int (nI p)), none, none, none, none, none, none, none, none, none]) (st' := [.int (nI (p + 1) + nI k)]) (by decide +kernel) rfl ?_
  rw [nI_add (p + 1) k]
  refine V.run hF [(.bipush 8, 2, .int (nI 8))] (pc' := 657) (L' := [some (.ref (A 0)), some (.ref (qo q)), some (.int x), none, none, some (.int (nI t)), some (.ref (qla q t)), some (.int (nI (gn σ t))), none, some (.int (nI p)), none, none, none, none, none, none, none, none, none]) (st' := [.int (nI 8), .int (nI (p + 1 + k))]) (by decide +kernel) rfl ?_
  refine V.iremN (a := p + 1 + k) (b := 8) hF (by decide +kernel) (by omega) (by omega) (by omega) ?_
  obtain ⟨c, hc⟩ : ∃ z : Nat, z = (p + 1 + k) % 8 := ⟨_, rfl⟩
  rw [← hc]
  have c8 : c < 8 := by omega
  have hcp : c ≠ p := by omega
  refine V.run hF [(.istore 16, 2, .null), (.iload_n 2, 1, .null), (.bipush 8, 2, .int (nI 8)), (.ishr, 1, .null), (.bipush 8, 2, .int (nI 8))] (pc' := 666) (L' := [some (.ref (A 0)), some (.ref (qo q)), some (.int x), none, none, some (.int (nI t)), some (.ref (qla q t)), some (.int (nI (gn σ t))), none, some (.int (nI p)), none, none, none, none, none, none, some (.int (nI c)), none, none]) (st' := [.int (nI 8), .int (x >>> ((nI 8) &&& 31))]) (by decide +kernel) rfl ?_
  refine V.callS (As := [.int (x >>> ((nI 8) &&& 31)), .int (nI 8)]) (st := []) hG hF k_RL_15 (by decide +kernel) (c_L_below hG (x >>> ((nI 8) &&& 31)) (n := 8) (by omega) (by omega)) rfl ⟨by rw [hRm]; decide, by rw [hRm]; decide⟩ (Nat.le_of_ble_eq_true rfl) rfl (fun v h_2 gp2 => ?_) (fun E h9 hx => hx.elim)
  obtain ⟨rfl, he_gp2⟩ := gp2
  rw [he_gp2]
  show V G F _ _ _ 669 [some (.ref (A 0)), some (.ref (qo q)), some (.int x), none, none, some (.int (nI t)), some (.ref (qla q t)), some (.int (nI (gn σ t))), none, some (.int (nI p)), none, none, none, none, none, none, some (.int (nI c)), none, none] [.int (nI (bl (x >>> ((nI 8) &&& 31)) 8))] h
  obtain ⟨w, hw⟩ : ∃ z : Nat, z = bl (x >>> ((nI 8) &&& 31)) 8 := ⟨_, rfl⟩
  rw [← hw]
  have lt_w : w < 8 := by rw [hw]; exact Nat.mod_lt _ (by omega)
  refine V.run hF [(.istore 17, 2, .null), (.iconst 1, 1, .int (nI 1)), (.iload_n 2, 1, .null), (.iconst 4, 1, .int 4), (.ishr, 1, .null), (.iload_n 2, 1, .null), (.iconst 2, 1, .int (nI 2))] (pc' := 677) (L' := [some (.ref (A 0)), some (.ref (qo q)), some (.int x), none, none, some (.int (nI t)), some (.ref (qla q t)), some (.int (nI (gn σ t))), none, some (.int (nI p)), none, none, none, none, none, none, some (.int (nI c)), some (.int (nI w)), none]) (st' := [.int (nI 2), .int x, .int (x >>> (4 &&& 31)), .int (nI 1)]) (by decide +kernel) rfl ?_
  refine V.callS (As := [.int x, .int (nI 2)]) (st := [.int (x >>> (4 &&& 31)), .int (nI 1)]) hG hF k_RL_15 (by decide +kernel) (c_L_below hG x (n := 2) (by omega) (by omega)) rfl ⟨by rw [hRm]; decide, by rw [hRm]; decide⟩ (Nat.le_of_ble_eq_true rfl) rfl (fun v h_3 gp3 => ?_) (fun E h9 hx => hx.elim)
  obtain ⟨rfl, he_gp3⟩ := gp3
  rw [he_gp3]
  show V G F _ _ _ 680 [some (.ref (A 0)), some (.ref (qo q)), some (.int x), none, none, some (.int (nI t)), some (.ref (qla q t)), some (.int (nI (gn σ t))), none, some (.int (nI p)), none, none, none, none, none, none, some (.int (nI c)), some (.int (nI w)), none] [.int (nI (bl x 2)), .int (x >>> (4 &&& 31)), .int (nI 1)] h
  obtain ⟨z, hz⟩ : ∃ z : Nat, z = bl x 2 := ⟨_, rfl⟩
  rw [← hz]
  have lt_z : z < 2 := by rw [hz]; exact Nat.mod_lt _ (by omega)
  have same0 : actP (A 0) (qo q) S Y (some (.int 1)) h := ⟨rfl, A, q, _, _, _, rfl, rfl, hC, hS, hO, hR, hA.up (by omega), Nat.le_trans hgy (Nat.le_add_right _ _)⟩
  have rest : ∀ m, 1 ≤ m → m ≤ 999 → V G F (fin G F (actP (A 0) (qo q) S Y) pxN) 400 400 695 [some (.ref (A 0)), some (.ref (qo q)), some (.int x), none, none, some (.int (nI t)), some (.ref (qla q t)), some (.int (nI (gn σ t))), none, some (.int (nI p)), none, none, none, none, none, none, some (.int (nI c)), some (.int (nI w)), none] [.int (nI m)] h := by
    intro m m1 m9
    refine V.run hF [(.istore 18, 2, .null), (.iload 7, 2, .null), (.bipush 12, 2, .int (nI 12))] (pc' := 701) (L' := [some (.ref (A 0)), some (.ref (qo q)), some (.int x), none, none, some (.int (nI t)), some (.ref (qla q t)), some (.int (nI (gn σ t))), none, some (.int (nI p)), none, none, none, none, none, none, some (.int (nI c)), some (.int (nI w)), some (.int (nI m))]) (st' := [.int (nI 12), .int (nI (gn σ t))]) (by decide +kernel) rfl ?_
    have rej : V G F (fin G F (actP (A 0) (qo q) S Y) pxN) 400 400 748 [some (.ref (A 0)), some (.ref (qo q)), some (.int x), none, none, some (.int (nI t)), some (.ref (qla q t)), some (.int (nI (gn σ t))), none, some (.int (nI p)), none, none, none, none, none, none, some (.int (nI c)), some (.int (nI w)), some (.int (nI m))] [] h := by
      refine V.run hF [(.iconst 1, 1, .int 1)] (pc' := 749) (L' := [some (.ref (A 0)), some (.ref (qo q)), some (.int x), none, none, some (.int (nI t)), some (.ref (qla q t)), some (.int (nI (gn σ t))), none, some (.int (nI p)), none, none, none, none, none, none, some (.int (nI c)), some (.int (nI w)), some (.int (nI m))]) (st' := [.int 1]) (by decide +kernel) rfl ?_
      exact V.retz hF (by decide +kernel) rfl same0
    refine V.icmpN_eq (i := gn σ t) (j := 12) hF (off := 47) (tgt := 748) (by decide +kernel) (by decide) (by omega) (by omega) (fun c1 => ?_) (fun c1 => ?_)
    · exact rej
    · skip
      refine V.run hF [(.iload 17, 2, .null), (.iload 9, 2, .null)] (pc' := 708) (L' := [some (.ref (A 0)), some (.ref (qo q)), some (.int x), none, none, some (.int (nI t)), some (.ref (qla q t)), some (.int (nI (gn σ t))), none, some (.int (nI p)), none, none, none, none, none, none, some (.int (nI c)), some (.int (nI w)), some (.int (nI m))]) (st' := [.int (nI p), .int (nI w)]) (by decide +kernel) rfl ?_
      refine V.icmpN_eq (i := w) (j := p) hF (off := 40) (tgt := 748) (by decide +kernel) (by decide) (by omega) (by omega) (fun c2 => ?_) (fun c2 => ?_)
      · exact rej
      · skip
        refine V.run hF [(.iload 17, 2, .null), (.iload 16, 2, .null)] (pc' := 715) (L' := [some (.ref (A 0)), some (.ref (qo q)), some (.int x), none, none, some (.int (nI t)), some (.ref (qla q t)), some (.int (nI (gn σ t))), none, some (.int (nI p)), none, none, none, none, none, none, some (.int (nI c)), some (.int (nI w)), some (.int (nI m))]) (st' := [.int (nI c), .int (nI w)]) (by decide +kernel) rfl ?_
        refine V.icmpN_eq (i := w) (j := c) hF (off := 33) (tgt := 748) (by decide +kernel) (by decide) (by omega) (by omega) (fun c3 => ?_) (fun c3 => ?_)
        · exact rej
        · skip
          refine V.run hF [(.aload_n 1, 1, .null)] (pc' := 719) (L' := [some (.ref (A 0)), some (.ref (qo q)), some (.int x), none, none, some (.int (nI t)), some (.ref (qla q t)), some (.int (nI (gn σ t))), none, some (.int (nI p)), none, none, none, none, none, none, some (.int (nI c)), some (.int (nI w)), some (.int (nI m))]) (st' := [.ref (qo q)]) (by decide +kernel) rfl ?_
          refine V.getf hG hF k_RL_48 (by decide +kernel) s1 rfl ?_
          refine V.run hF [(.iload 9, 2, .null)] (pc' := 724) (L' := [some (.ref (A 0)), some (.ref (qo q)), some (.int x), none, none, some (.int (nI t)), some (.ref (qla q t)), some (.int (nI (gn σ t))), none, some (.int (nI p)), none, none, none, none, none, none, some (.int (nI c)), some (.int (nI w)), some (.int (nI m))]) (st' := [.int (nI p), .ref (qth q)]) (by decide +kernel) rfl ?_
          refine V.zaldN (j := p) hG hF (by decide +kernel) s2 (by omega) (by first | decide | omega) ?_
          refine V.if_eq hF (off := 23) (tgt := 748) (by decide +kernel) (by decide) (fun c4 => ?_) (fun c4 => ?_)
          · exact rej
          · skip
            refine V.run hF [(.aload_n 1, 1, .null)] (pc' := 729) (L' := [some (.ref (A 0)), some (.ref (qo q)), some (.int x), none, none, some (.int (nI t)), some (.ref (qla q t)), some (.int (nI (gn σ t))), none, some (.int (nI p)), none, none, none, none, none, none, some (.int (nI c)), some (.int (nI w)), some (.int (nI m))]) (st' := [.ref (qo q)]) (by decide +kernel) rfl ?_
            refine V.getf hG hF k_RL_48 (by decide +kernel) s1 rfl ?_
            refine V.run hF [(.iload 16, 2, .null)] (pc' := 734) (L' := [some (.ref (A 0)), some (.ref (qo q)), some (.int x), none, none, some (.int (nI t)), some (.ref (qla q t)), some (.int (nI (gn σ t))), none, some (.int (nI p)), none, none, none, none, none, none, some (.int (nI c)), some (.int (nI w)), some (.int (nI m))]) (st' := [.int (nI c), .ref (qth q)]) (by decide +kernel) rfl ?_
            refine V.zaldN (j := c) hG hF (by decide +kernel) s2 (by omega) (by first | decide | omega) ?_
            refine V.if_eq hF (off := 13) (tgt := 748) (by decide +kernel) (by decide) (fun c5 => ?_) (fun c5 => ?_)
            · exact rej
            · skip
              refine V.run hF [(.aload_n 1, 1, .null)] (pc' := 739) (L' := [some (.ref (A 0)), some (.ref (qo q)), some (.int x), none, none, some (.int (nI t)), some (.ref (qla q t)), some (.int (nI (gn σ t))), none, some (.int (nI p)), none, none, none, none, none, none, some (.int (nI c)), some (.int (nI w)), some (.int (nI m))]) (st' := [.ref (qo q)]) (by decide +kernel) rfl ?_
              refine V.getf hG hF k_RL_48 (by decide +kernel) s1 rfl ?_
              refine V.run hF [(.iload 17, 2, .null)] (pc' := 744) (L' := [some (.ref (A 0)), some (.ref (qo q)), some (.int x), none, none, some (.int (nI t)), some (.ref (qla q t)), some (.int (nI (gn σ t))), none, some (.int (nI p)), none, none, none, none, none, none, some (.int (nI c)), some (.int (nI w)), some (.int (nI m))]) (st' := [.int (nI w), .ref (qth q)]) (by decide +kernel) rfl ?_
              refine V.zaldN (j := w) hG hF (by decide +kernel) s2 (by omega) (by first | decide | omega) ?_
              refine V.if_ne hF (off := 5) (tgt := 750) (by decide +kernel) (by decide) (fun c6 => ?_) (fun c6 => ?_)
              · skip
                refine V.run hF [(.aload_n 1, 1, .null)] (pc' := 751) (L' := [some (.ref (A 0)), some (.ref (qo q)), some (.int x), none, none, some (.int (nI t)), some (.ref (qla q t)), some (.int (nI (gn σ t))), none, some (.int (nI p)), none, none, none, none, none, none, some (.int (nI c)), some (.int (nI w)), some (.int (nI m))]) (st' := [.ref (qo q)]) (by decide +kernel) rfl ?_
                refine V.getf hG hF k_RL_31 (by decide +kernel) s1 rfl ?_
                refine V.run hF [(.iload 5, 2, .null), (.aload 6, 2, .null), (.iconst 4, 1, .int (nI 4))] (pc' := 759) (L' := [some (.ref (A 0)), some (.ref (qo q)), some (.int x), none, none, some (.int (nI t)), some (.ref (qla q t)), some (.int (nI (gn σ t))), none, some (.int (nI p)), none, none, none, none, none, none, some (.int (nI c)), some (.int (nI w)), some (.int (nI m))]) (st' := [.int (nI 4), .ref (qla q t), .int (nI t), .ref (qli q)]) (by decide +kernel) rfl ?_
                refine V.less (kc' := 398 + 1) (ks' := 396 + 4) (by decide) (by decide) ?_
                refine V.newa (aty := .int) (t := 0) (N := 4) (a0 := (4, .inl (fun _ => 0))) hG hF (by decide) rfl tw_arr_0.1 (by decide +kernel) (by decide) (by decide) (by decide) (fun _ => rfl) (fun b hq_b => ?_)
                have ne_qoq_b : (qo q) ≠ b := ne_new s1 hq_b
                have ne_qthq_b : (qth q) ≠ b := ne_new s2 hq_b
                have ne_qliq_b : (qli q) ≠ b := ne_new s6 hq_b
                obtain ⟨h_4, gh4⟩ : ∃ z : Hp, z = hset h b (.inl (0, 4, .inl (fun _ => 0))) := ⟨_, rfl⟩
                refine V.hp gh4 ?_
                have gk4 : ∀ zq : Nat, zq ≠ b → h_4 zq = h zq := fun zq hq => by rw [gh4]; exact hset_ne hq
                have gs4 : h_4 b = some (.inl (0, 4, .inl (fun _ => 0))) := by rw [gh4]; exact hset_eq
                refine V.run hF [(.dup, 1, .null), (.iconst 0, 1, .int (nI 0)), (.iload 9, 2, .null)] (pc' := 765) (L' := [some (.ref (A 0)), some (.ref (qo q)), some (.int x), none, none, some (.int (nI t)), some (.ref (qla q t)), some (.int (nI (gn σ t))), none, some (.int (nI p)), none, none, none, none, none, none, some (.int (nI c)), some (.int (nI w)), some (.int (nI m))]) (st' := [.int (nI p), .int (nI 0), .ref b, .ref b, .ref (qla q t), .int (nI t), .ref (qli q)]) (by decide +kernel) rfl ?_
                refine V.iastN (j := 0) hG hF (by decide +kernel) gs4 (by omega) (by first | decide | omega) ?_
                obtain ⟨h_5, gh5⟩ : ∃ z : Hp, z = hset h_4 b (.inl (0, 4, .inl (upd (fun _ => 0) 0 (nI p)))) := ⟨_, rfl⟩
                refine V.hp gh5 ?_
                have gk5 : ∀ zq : Nat, zq ≠ b → h_5 zq = h_4 zq := fun zq hq => by rw [gh5]; exact hset_ne hq
                have gs5 : h_5 b = some (.inl (0, 4, .inl (upd (fun _ => 0) 0 (nI p)))) := by rw [gh5]; exact hset_eq
                refine V.run hF [(.dup, 1, .null), (.iconst 1, 1, .int (nI 1)), (.iload 16, 2, .null)] (pc' := 770) (L' := [some (.ref (A 0)), some (.ref (qo q)), some (.int x), none, none, some (.int (nI t)), some (.ref (qla q t)), some (.int (nI (gn σ t))), none, some (.int (nI p)), none, none, none, none, none, none, some (.int (nI c)), some (.int (nI w)), some (.int (nI m))]) (st' := [.int (nI c), .int (nI 1), .ref b, .ref b, .ref (qla q t), .int (nI t), .ref (qli q)]) (by decide +kernel) rfl ?_
                refine V.iastN (j := 1) hG hF (by decide +kernel) gs5 (by omega) (by first | decide | omega) ?_
                obtain ⟨h_6, gh6⟩ : ∃ z : Hp, z = hset h_5 b (.inl (0, 4, .inl (upd (upd (fun _ => 0) 0 (nI p)) 1 (nI c)))) := ⟨_, rfl⟩
                refine V.hp gh6 ?_
                have gk6 : ∀ zq : Nat, zq ≠ b → h_6 zq = h_5 zq := fun zq hq => by rw [gh6]; exact hset_ne hq
                have gs6 : h_6 b = some (.inl (0, 4, .inl (upd (upd (fun _ => 0) 0 (nI p)) 1 (nI c)))) := by rw [gh6]; exact hset_eq
                refine V.run hF [(.dup, 1, .null), (.iconst 2, 1, .int (nI 2)), (.iload 18, 2, .null)] (pc' := 775) (L' := [some (.ref (A 0)), some (.ref (qo q)), some (.int x), none, none, some (.int (nI t)), some (.ref (qla q t)), some (.int (nI (gn σ t))), none, some (.int (nI p)), none, none, none, none, none, none, some (.int (nI c)), some (.int (nI w)), some (.int (nI m))]) (st' := [.int (nI m), .int (nI 2), .ref b, .ref b, .ref (qla q t), .int (nI t), .ref (qli q)]) (by decide +kernel) rfl ?_
                refine V.iastN (j := 2) hG hF (by decide +kernel) gs6 (by omega) (by first | decide | omega) ?_
                obtain ⟨h_7, gh7⟩ : ∃ z : Hp, z = hset h_6 b (.inl (0, 4, .inl (upd (upd (upd (fun _ => 0) 0 (nI p)) 1 (nI c)) 2 (nI m)))) := ⟨_, rfl⟩
                refine V.hp gh7 ?_
                have gk7 : ∀ zq : Nat, zq ≠ b → h_7 zq = h_6 zq := fun zq hq => by rw [gh7]; exact hset_ne hq
                have gs7 : h_7 b = some (.inl (0, 4, .inl (upd (upd (upd (fun _ => 0) 0 (nI p)) 1 (nI c)) 2 (nI m)))) := by rw [gh7]; exact hset_eq
                refine V.run hF [(.dup, 1, .null), (.iconst 3, 1, .int (nI 3)), (.iload 17, 2, .null)] (pc' := 780) (L' := [some (.ref (A 0)), some (.ref (qo q)), some (.int x), none, none, some (.int (nI t)), some (.ref (qla q t)), some (.int (nI (gn σ t))), none, some (.int (nI p)), none, none, none, none, none, none, some (.int (nI c)), some (.int (nI w)), some (.int (nI m))]) (st' := [.int (nI w), .int (nI 3), .ref b, .ref b, .ref (qla q t), .int (nI t), .ref (qli q)]) (by decide +kernel) rfl ?_
                refine V.iastN (j := 3) hG hF (by decide +kernel) gs7 (by omega) (by first | decide | omega) ?_
                obtain ⟨h_8, gh8⟩ : ∃ z : Hp, z = hset h_7 b (.inl (0, 4, .inl (upd (upd (upd (upd (fun _ => 0) 0 (nI p)) 1 (nI c)) 2 (nI m)) 3 (nI w)))) := ⟨_, rfl⟩
                refine V.hp gh8 ?_
                have gk8 : ∀ zq : Nat, zq ≠ b → h_8 zq = h_7 zq := fun zq hq => by rw [gh8]; exact hset_ne hq
                have gs8 : h_8 b = some (.inl (0, 4, .inl (upd (upd (upd (upd (fun _ => 0) 0 (nI p)) 1 (nI c)) 2 (nI m)) 3 (nI w)))) := by rw [gh8]; exact hset_eq
                have xb : Ex h h_8 := fun y cc hcc => by
                  have n := ne_new hcc hq_b
                  rw [gk8 y n, gk7 y n, gk6 y n, gk5 y n, gk4 y n]
                  exact hcc
                have cb := gs8
                refine V.less (kc' := 397 + 1) (ks' := 383 + 13) (by decide) (by decide) ?_
                refine V.callS (As := [.ref (qla q t), .ref b]) (st := [.int (nI t), .ref (qli q)]) hG hF k_RL_21 (by decide +kernel) (c_X4_with hG (xb _ _ w1) (fun j hj => by obtain ⟨f, e2, -⟩ := w3 j hj; exact ⟨qrr q t j, _, w2 j hj, xb _ _ e2⟩) cb (by omega)) rfl ⟨by rw [hRm]; decide, by rw [hRm]; decide⟩ (Nat.le_of_ble_eq_true rfl) rfl (fun v h3 hp3 => ?_) (fun E h9 hx => hx.elim)
                obtain ⟨na, g', hv, a1, a2, a3, a4, a5⟩ := hp3
                rw [hv]
                have x3 : Ex h h3 := xb.tr (Ex.new a1 a5)
                have nba : b ≠ na := ne_new cb a1
                show V G F _ _ _ 784 [some (.ref (A 0)), some (.ref (qo q)), some (.int x), none, none, some (.int (nI t)), some (.ref (qla q t)), some (.int (nI (gn σ t))), none, some (.int (nI p)), none, none, none, none, none, none, some (.int (nI c)), some (.int (nI w)), some (.int (nI m))] [.ref na, .int (nI t), .ref (qli q)] h3
                refine V.aastAN (j := t) hG hF (by decide) (by decide +kernel) (x3 _ _ s6) a2 (by omega) (by first | decide | omega) ?_
                obtain ⟨h_10, gh10⟩ : ∃ z : Hp, z = hset h3 (qli q) (.inl (4, 8, .inr (.inr (.inr (.inr (va_up g2 t (some na))))))) := ⟨_, rfl⟩
                refine V.hp gh10 ?_
                have gk10 : ∀ zq : Nat, zq ≠ (qli q) → h_10 zq = h3 zq := fun zq hq => by rw [gh10]; exact hset_ne hq
                have gs10 : h_10 (qli q) = some (.inl (4, 8, .inr (.inr (.inr (.inr (va_up g2 t (some na))))))) := by rw [gh10]; exact hset_eq
                have ew : Exw (qli q) h h_10 := fun y cc hcc hy => (gk10 y hy).trans (x3 y cc hcc)
                have nna : na ≠ qli q := nek a2 (x3 _ _ s6) nofun
                have nbl : b ≠ qli q := Ne.symm (ne_new s6 hq_b)
                have hS2 := SM.lines (h0 := h) (a := na) (n := gn σ t + 1) (R := va_up (qrr q t) (gn σ t) b) (D := upd (gDD σ t) (gn σ t) (nI p)) (C := upd (gC σ t) (gn σ t) (nI c)) (M := upd (gM σ t) (gn σ t) (nI m)) (W := upd (gW σ t) (gn σ t) (nI w)) hS ht hT8 s6 gs10 (by
                  refine ⟨⟨g', (gk10 _ nna).trans a2, fun j hj => ?_⟩, fun j hj => ?_⟩
                  · by_cases e : j = gn σ t
                    · rw [e, va_up_self]
                      exact a4
                    · rw [va_up_ne _ _ e, a3 j (by omega)]
                      exact w2 j (by omega)
                  · by_cases e : j = gn σ t
                    · rw [e, va_up_self, upd_s, upd_s, upd_s, upd_s]
                      exact ⟨_, (gk10 _ nbl).trans ((a5 _ nba).trans cb), rfl, rfl, rfl, rfl⟩
                    · rw [va_up_ne _ _ e, upd_n e, upd_n e, upd_n e, upd_n e]
                      have r9 := w3 j (by omega)
                      obtain ⟨f, e1, e2⟩ := r9
                      exact ⟨f, ew _ _ e1 (nek e1 s6 nofun), e2⟩) ew (by
                  have nb : ∀ j, j < gn σ t → qrr q t j ≠ b := fun j hj => by
                    obtain ⟨f, e1, e2⟩ := w3 j hj
                    exact ne_new e1 hq_b
                  intro i j hi hj
                  by_cases zi : i = gn σ t
                  · by_cases zj : j = gn σ t
                    · exact fun _ => zi.trans zj.symm
                    · rw [zi, va_up_self, va_up_ne _ _ zj]
                      exact fun e => absurd e.symm (nb j (by omega))
                  · by_cases zj : j = gn σ t
                    · rw [zj, va_up_self, va_up_ne _ _ zi]
                      exact fun e => absurd e (nb i (by omega))
                    · rw [va_up_ne _ _ zi, va_up_ne _ _ zj]
                      exact fun e => (s9 t t i j t8 t8 (by rw [gm_in ht]; omega) (by rw [gm_in ht]; omega) e).2) (by
                  intro j hj
                  by_cases e : j = gn σ t
                  · rw [e, va_up_self]
                    exact Or.inl hq_b
                  · rw [va_up_ne _ _ e]
                    exact Or.inr ⟨j, by omega, rfl⟩) hS
                have hC2 := hC.exw ew (hS.o6 hC)
                obtain ⟨-, -, gA2, -⟩ := id hC2
                refine V.run hF [(.aload_n 0, 1, .null), (.iload 5, 2, .null), (.iload 9, 2, .null), (.iload 16, 2, .null), (.iload 18, 2, .null), (.iload 17, 2, .null)] (pc' := 796) (L' := [some (.ref (A 0)), some (.ref (qo q)), some (.int x), none, none, some (.int (nI t)), some (.ref (qla q t)), some (.int (nI (gn σ t))), none, some (.int (nI p)), none, none, none, none, none, none, some (.int (nI c)), some (.int (nI w)), some (.int (nI m))]) (st' := [.int (nI w), .int (nI m), .int (nI c), .int (nI p), .int (nI t), .ref (A 0)]) (by decide +kernel) rfl ?_
                have q1 : wr1 σ (nI t) (nI p) (nI c) (nI w) := ⟨⟨t, ht, rfl⟩, inP_nI hp, inP_nI c8, inP_nI lt_w⟩
                have q2 : wr2 (nI p) (nI c) (nI m) (nI w) := ⟨fun e => by
                  rcases e with e | e | e
                  · exact hcp (nI_e8 hp c8 e).symm
                  · exact c2 (nI_e8 hp lt_w e).symm
                  · exact c3 (nI_e8 c8 lt_w e).symm, fun e => by
                  have := (nI_ltI (a := m) (b := 1) (by omega) (by decide)).mp e
                  omega, (nI_leI (a := m) (b := 999) (by omega) (by decide)).mpr m9⟩
                have q3 : wr3 σ (nI t) (nI p) (nI c) (nI w) := ⟨by rw [nI_clamp (by omega)]; omega, prs_of hp c4, prs_of c8 c5, prs_of lt_w c6⟩
                refine V.less (kc' := 389 + 8) (ks' := 335 + 48) (by decide) (by decide) ?_
                refine V.callV (As := [.int (nI t), .int (nI p), .int (nI c), .int (nI m), .int (nI w)]) (st := []) hG hF k_RL_83 (by decide +kernel) (c_X3_write hG hC2 (nI t) (nI p) (nI c) (nI m) (nI w)) gA2 rfl rfl ⟨by rw [hRm]; decide, by rw [hRm]; decide⟩ (Nat.le_of_ble_eq_true rfl) rfl (fun v4 h4 hp4 => ?_) (fun E h9 hx => (hx.1.elim (fun z => z.2 q1) (fun z => z.elim (fun z => z.2.2 q2) (fun z => z.2.2.2 q3))).elim)
                obtain ⟨-, -, -, t', ht', et, hv4, hC4, hk4⟩ := hp4
                have et : t = t' := (nI_eq (by omega) (by omega)).mp et
                subst et
                have hS4 := hS2.kp hC2 hO hk4
                rw [hv4]
                show V G F _ _ _ 799 [some (.ref (A 0)), some (.ref (qo q)), some (.int x), none, none, some (.int (nI t)), some (.ref (qla q t)), some (.int (nI (gn σ t))), none, some (.int (nI p)), none, none, none, none, none, none, some (.int (nI c)), some (.int (nI w)), some (.int (nI m))] [.int (nI (gn σ t))] h4
                refine V.run hF [(.iload 7, 2, .null)] (pc' := 801) (L' := [some (.ref (A 0)), some (.ref (qo q)), some (.int x), none, none, some (.int (nI t)), some (.ref (qla q t)), some (.int (nI (gn σ t))), none, some (.int (nI p)), none, none, none, none, none, none, some (.int (nI c)), some (.int (nI w)), some (.int (nI m))]) (st' := [.int (nI (gn σ t)), .int (nI (gn σ t))]) (by decide +kernel) rfl ?_
                refine V.icmp_ne hF (off := 7) (tgt := 808) (by decide +kernel) (by decide) (fun c7 => ?_) (fun c7 => ?_)
                · exact absurd rfl c7
                · skip
                  refine V.run hF [(.iconst 1, 1, .int 1), (.goto 4, 3, .null)] (pc' := 809) (L' := [some (.ref (A 0)), some (.ref (qo q)), some (.int x), none, none, some (.int (nI t)), some (.ref (qla q t)), some (.int (nI (gn σ t))), none, some (.int (nI p)), none, none, none, none, none, none, some (.int (nI c)), some (.int (nI w)), some (.int (nI m))]) (st' := [.int 1]) (by decide +kernel) rfl ?_
                  exact V.retz hF (by decide +kernel) rfl ⟨rfl, A, qlines q t na (va_up (qrr q t) (gn σ t) b), _, _, _, rfl, rfl, hC4, hS4, hO, hR.wr ht ⟨inP_nI hp, inP_nI c8, inP_nI lt_w, fun e => hcp (nI_e8 hp c8 e).symm⟩ (by omega), hA.wr ht q2, Nat.le_trans hgy (Nat.le_add_right _ _)⟩
              · skip
                exact rej
  refine V.if_ne hF (off := 9) (tgt := 689) (by decide +kernel) (by decide) (fun cz => ?_) (fun cz => ?_)
  · skip
    refine V.run hF [(.bipush 12, 2, .int (nI 12))] (pc' := 691) (L' := [some (.ref (A 0)), some (.ref (qo q)), some (.int x), none, none, some (.int (nI t)), some (.ref (qla q t)), some (.int (nI (gn σ t))), none, some (.int (nI p)), none, none, none, none, none, none, some (.int (nI c)), some (.int (nI w)), none]) (st' := [.int (nI 12), .int (x >>> (4 &&& 31)), .int (nI 1)]) (by decide +kernel) rfl ?_
    refine V.callS (As := [.int (x >>> (4 &&& 31)), .int (nI 12)]) (st := [.int (nI 1)]) hG hF k_RL_15 (by decide +kernel) (c_L_below hG (x >>> (4 &&& 31)) (n := 12) (by omega) (by omega)) rfl ⟨by rw [hRm]; decide, by rw [hRm]; decide⟩ (Nat.le_of_ble_eq_true rfl) rfl (fun v h_12 gp12 => ?_) (fun E h9 hx => hx.elim)
    obtain ⟨rfl, he_gp12⟩ := gp12
    rw [he_gp12]
    show V G F _ _ _ 694 [some (.ref (A 0)), some (.ref (qo q)), some (.int x), none, none, some (.int (nI t)), some (.ref (qla q t)), some (.int (nI (gn σ t))), none, some (.int (nI p)), none, none, none, none, none, none, some (.int (nI c)), some (.int (nI w)), none] [.int (nI (bl (x >>> (4 &&& 31)) 12)), .int (nI 1)] h
    obtain ⟨y, hy⟩ : ∃ z : Nat, z = bl (x >>> (4 &&& 31)) 12 := ⟨_, rfl⟩
    rw [← hy]
    have lt_y : y < 12 := by rw [hy]; exact Nat.mod_lt _ (by omega)
    refine V.run hF [(.iadd, 1, .null)] (pc' := 695) (L' := [some (.ref (A 0)), some (.ref (qo q)), some (.int x), none, none, some (.int (nI t)), some (.ref (qla q t)), some (.int (nI (gn σ t))), none, some (.int (nI p)), none, none, none, none, none, none, some (.int (nI c)), some (.int (nI w)), none]) (st' := [.int (nI 1 + nI y)]) (by decide +kernel) rfl ?_
    rw [nI_add 1 y]
    exact rest (1 + y) (by omega) (by omega)
  · skip
    refine V.run hF [(.sipush 999, 3, .int (nI 999)), (.goto 5, 3, .null)] (pc' := 691) (L' := [some (.ref (A 0)), some (.ref (qo q)), some (.int x), none, none, some (.int (nI t)), some (.ref (qla q t)), some (.int (nI (gn σ t))), none, some (.int (nI p)), none, none, none, none, none, none, some (.int (nI c)), some (.int (nI w)), none]) (st' := [.int (nI 999), .int (x >>> (4 &&& 31)), .int (nI 1)]) (by decide +kernel) rfl ?_
    refine V.callS (As := [.int (x >>> (4 &&& 31)), .int (nI 999)]) (st := [.int (nI 1)]) hG hF k_RL_15 (by decide +kernel) (c_L_below hG (x >>> (4 &&& 31)) (n := 999) (by omega) (by omega)) rfl ⟨by rw [hRm]; decide, by rw [hRm]; decide⟩ (Nat.le_of_ble_eq_true rfl) rfl (fun v h_13 gp13 => ?_) (fun E h9 hx => hx.elim)
    obtain ⟨rfl, he_gp13⟩ := gp13
    rw [he_gp13]
    show V G F _ _ _ 694 [some (.ref (A 0)), some (.ref (qo q)), some (.int x), none, none, some (.int (nI t)), some (.ref (qla q t)), some (.int (nI (gn σ t))), none, some (.int (nI p)), none, none, none, none, none, none, some (.int (nI c)), some (.int (nI w)), none] [.int (nI (bl (x >>> (4 &&& 31)) 999)), .int (nI 1)] h
    obtain ⟨y, hy⟩ : ∃ z : Nat, z = bl (x >>> (4 &&& 31)) 999 := ⟨_, rfl⟩
    rw [← hy]
    have lt_y : y < 999 := by rw [hy]; exact Nat.mod_lt _ (by omega)
    refine V.run hF [(.iadd, 1, .null)] (pc' := 695) (L' := [some (.ref (A 0)), some (.ref (qo q)), some (.int x), none, none, some (.int (nI t)), some (.ref (qla q t)), some (.int (nI (gn σ t))), none, some (.int (nI p)), none, none, none, none, none, none, some (.int (nI c)), some (.int (nI w)), none]) (st' := [.int (nI 1 + nI y)]) (by decide +kernel) rfl ?_
    rw [nI_add 1 y]
    exact rest (1 + y) (by omega) (by omega)
end Ae
