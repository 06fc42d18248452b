/-! ===== the law's cases ===== -/
theorem joinR {φ : Int32 → Int64} {val y k1 k2 : Int32} {σ σ1 σ' σ2 : Sg} {o1 : Nat → Int64} {R : Sg → Prop} (hu : k2 = k1) (d1 : (k1 = 0 ∧ σ' = σ1 ∧ o1 0 = φ val) ∨ (¬ k1 = 0 ∧ σ' = σ)) (d2 : (k2 = 0 ∧ σ2 = σ1 ∧ y = val) ∨ (¬ k2 = 0 ∧ σ2 = σ)) (r0 : k1 = 0 → R σ1) (r1 : R σ) : σ2 = σ' ∧ (k1 = 0 → o1 0 = φ y) ∧ R σ' := by
  rcases d1 with ⟨z1, e1, eo⟩ | ⟨z1, e1⟩ <;> rcases d2 with ⟨z2, e2, ey⟩ | ⟨z2, e2⟩
  · rw [e1, e2, ey]
    exact ⟨rfl, fun _ => eo, r0 z1⟩
  · exact absurd (hu.trans z1) z2
  · exact absurd (hu.symm.trans z2) z1
  · rw [e1, e2]
    exact ⟨rfl, fun z => absurd z z1, r1⟩
abbrev RI (k : Nat) (σ : Sg) : Prop := Am σ (999 * ((k + 1 : Nat) : Int)) ∧ gy σ ≤ 40 * (k + 1)
section Lw
variable {G : Gt} {F : Ft} {Q : State → Prop} {h : Hp} {kc ks sb n a b c k : Nat} {xs : Nat → Int32}
set_option maxHeartbeats 8000000 in
theorem lc_addTablet (hG : GOk G) (hN : GNc G) (hF : Ok G F RL cL_law 9 (some .boolean)) (hRm : fR F = { frames := 12, cells := 693274, slots := 7016281, locals := 448 }) (hX : SX G sb n xs) (hn : n ≤ 3072) (hi : 6 * k + 6 ≤ n) (hI : LI a b c k h) (ih : ∀ h', LI a b c (k + 1) h' → ∀ z5 z6 z7 z8, V G F Q kc ks 23 [some (.ref sb), some (.ref a), some (.ref b), some (.ref c), some (.int (nI (6 * (k + 1)))), z5, z6, z7, z8] [] h') : V G F Q (kc + 200) (ks + 1200) 196 [some (.ref sb), some (.ref a), some (.ref b), some (.ref c), some (.int (nI (6 * k))), none, none, none, none] [] h := by
  obtain ⟨A, σ, P, r, B, x, u, md, hs, o, rfl, rfl, hC, hM, hR, hA, hy, ho, dAB, dAc, dBc⟩ := hI
  have k512 : k < 512 := by omega
  have hS : 999 * (k : Int) ≤ 1073741824 := by omega
  have hA1 : Am σ (999 * ((k + 1 : Nat) : Int)) := hA.up (by omega)
  have hy1 : gy σ ≤ 40 * (k + 1) := by omega
  refine V.run hF [(.aload_n 1, 1, .null), (.aload_n 0, 1, .null), (.iload 4, 2, .null), (.iconst 1, 1, .int (nI 1)), (.iadd, 1, .null)] (pc' := 202) (L' := [some (.ref sb), some (.ref (A 0)), some (.ref (B 0)), some (.ref c), some (.int (nI (6 * k))), none, none, none, none]) (st' := [.int (nI (6 * k) + nI 1), .ref sb, .ref (A 0)]) (by decide +kernel) rfl ?_
  rw [nI_add (6 * k) 1]
  refine V.sld (j := 6 * k + 1) hF hX (by decide +kernel) (by omega) (by omega) ?_
  refine V.run hF [(.aload_n 3, 1, .null)] (pc' := 204) (L' := [some (.ref sb), some (.ref (A 0)), some (.ref (B 0)), some (.ref c), some (.int (nI (6 * k))), none, none, none, none]) (st' := [.ref c, .int (xs (6 * k + 1)), .ref (A 0)]) (by decide +kernel) rfl ?_
  refine V.less (kc' := kc + 6) (ks' := ks + 56) (by omega) (by omega) ?_
  refine V.callSW (As := [.ref (A 0), .int (xs (6 * k + 1)), .ref c]) (st := []) hG hF k_RL_97 (by decide +kernel) (n_addTablet hG hN hC ho dAc (xs (6 * k + 1))) rfl ⟨by rw [hRm]; decide, by rw [hRm]; decide⟩ (Nat.le_of_ble_eq_true rfl) rfl (fun v1 h1 hp => ?_) (fun E h9 hx => hx.elim)
  obtain ⟨k1, σ', A1, P1, r1, o1, rfl, s1, d1, hC1, ho1, e10, e11, e12⟩ := hp
  have hM1 := LI_B hM dAB dBc e12
  show V G F _ _ _ 207 [some (.ref sb), some (.ref (A 0)), some (.ref (B 0)), some (.ref c), some (.int (nI (6 * k))), none, none, none, none] [.int k1] h1
  refine V.run hF [(.istore 5, 2, .null), (.aload_n 2, 1, .null), (.aload_n 0, 1, .null), (.iload 4, 2, .null), (.iconst 1, 1, .int (nI 1)), (.iadd, 1, .null)] (pc' := 215) (L' := [some (.ref sb), some (.ref (A 0)), some (.ref (B 0)), some (.ref c), some (.int (nI (6 * k))), some (.int k1), none, none, none]) (st' := [.int (nI (6 * k) + nI 1), .ref sb, .ref (B 0)]) (by decide +kernel) rfl ?_
  rw [nI_add (6 * k) 1]
  refine V.sld (j := 6 * k + 1) hF hX (by decide +kernel) (by omega) (by omega) ?_
  refine V.callV (As := [.int (xs (6 * k + 1))]) (st := []) hG hF k_RL_102 (by decide +kernel) (m_addTablet hG hM1 hR (xs (6 * k + 1))) hM1.2.1 rfl rfl ⟨by rw [hRm]; decide, by rw [hRm]; decide⟩ (Nat.le_of_ble_eq_true rfl) rfl (fun v2 h2 hp2 => ?_) (fun E h9 hx => hx.elim)
  obtain ⟨k2, y, σ2, u2, md2, hs2, rfl, s2, d2, hR2, hM2, hk2⟩ := hp2
  have ek : k2 = k1 := st2_u s2 s1
  obtain ⟨rfl, jo, jA, jy⟩ := joinR (R := RI k) ek d1 d2 (fun z => by
    rw [z] at s1
    exact ⟨(hA.add (by omega)).up (by omega), hy1⟩) ⟨hA1, hy1⟩
  have hL := LI_next hM ho dAB dAc dBc hC1 ho1 e10 e11 hR2 hM2 hk2 jA jy
  have ho2 : h2 c = some (out1 o1) := hk2 c _ ho1 (fun j hj q => dBc j hj q.symm)
  show V G F _ _ _ 219 [some (.ref sb), some (.ref (A 0)), some (.ref (B 0)), some (.ref c), some (.int (nI (6 * k))), some (.int k1), none, none, none] [.int y] h2
  refine V.run hF [(.istore 6, 2, .null), (.aload_n 2, 1, .null)] (pc' := 222) (L' := [some (.ref sb), some (.ref (A 0)), some (.ref (B 0)), some (.ref c), some (.int (nI (6 * k))), some (.int k1), some (.int y), none, none]) (st' := [.ref (B 0)]) (by decide +kernel) rfl ?_
  refine V.callV (As := []) (st := []) hG hF k_RL_103 (by decide +kernel) (c_X4_thrown hG hM2) hM2.2.1 rfl rfl ⟨by rw [hRm]; decide, by rw [hRm]; decide⟩ (Nat.le_of_ble_eq_true rfl) rfl (fun v h_3 gp3 => ?_) (fun E h9 hx => hx.elim)
  obtain ⟨rfl, he_gp3⟩ := gp3
  rw [he_gp3]
  show V G F _ _ _ 225 [some (.ref sb), some (.ref (A 0)), some (.ref (B 0)), some (.ref c), some (.int (nI (6 * k))), some (.int k1), some (.int y), none, none] [.int k2] h2
  refine V.run hF [(.iload 5, 2, .null)] (pc' := 227) (L' := [some (.ref sb), some (.ref (A 0)), some (.ref (B 0)), some (.ref c), some (.int (nI (6 * k))), some (.int k1), some (.int y), none, none]) (st' := [.int k1, .int k2]) (by decide +kernel) rfl ?_
  refine V.icmp_eq hF (off := 5) (tgt := 232) (by decide +kernel) (by decide) (fun c1 => ?_) (fun c1 => ?_)
  · skip
    refine V.run hF [(.iload 5, 2, .null)] (pc' := 234) (L' := [some (.ref sb), some (.ref (A 0)), some (.ref (B 0)), some (.ref c), some (.int (nI (6 * k))), some (.int k1), some (.int y), none, none]) (st' := [.int k1]) (by decide +kernel) rfl ?_
    refine V.if_ne hF (off := 15) (tgt := 249) (by decide +kernel) (by decide) (fun c2 => ?_) (fun c2 => ?_)
    · skip
      refine V.run hF [(.goto 1666, 3, .null), (.iinc 4 6, 3, .int 6), (.goto (-1895), 3, .null)] (pc' := 23) (L' := [some (.ref sb), some (.ref (A 0)), some (.ref (B 0)), some (.ref c), some (.int ((nI (6 * k)) + 6)), some (.int k1), some (.int y), none, none]) (st' := []) (by decide +kernel) rfl ?_
      rw [n6 k]
      exact ih _ hL _ _ _ _
    · skip
      refine V.run hF [(.aload_n 3, 1, .null), (.iconst 0, 1, .int (nI 0))] (pc' := 239) (L' := [some (.ref sb), some (.ref (A 0)), some (.ref (B 0)), some (.ref c), some (.int (nI (6 * k))), some (.int k1), some (.int y), none, none]) (st' := [.int (nI 0), .ref c]) (by decide +kernel) rfl ?_
      refine V.laldN (j := 0) hG hF (by decide +kernel) ho2 (by omega) (by decide) ?_
      refine V.run hF [(.iload 6, 2, .null), (.i2l, 1, .null), (.lcmp, 1, .null)] (pc' := 244) (L' := [some (.ref sb), some (.ref (A 0)), some (.ref (B 0)), some (.ref c), some (.int (nI (6 * k))), some (.int k1), some (.int y), none, none]) (st' := [.int (lg_cmp (o1 0) (Int32.toInt64 y))]) (by decide +kernel) rfl ?_
      rw [(lg_cmp_eq _ _).mpr (jo c2)]
      refine V.if_eq hF (off := 5) (tgt := 249) (by decide +kernel) (by decide) (fun c3 => ?_) (fun c3 => ?_)
      · skip
        refine V.run hF [(.goto 1666, 3, .null), (.iinc 4 6, 3, .int 6), (.goto (-1895), 3, .null)] (pc' := 23) (L' := [some (.ref sb), some (.ref (A 0)), some (.ref (B 0)), some (.ref c), some (.int ((nI (6 * k)) + 6)), some (.int k1), some (.int y), none, none]) (st' := []) (by decide +kernel) rfl ?_
        rw [n6 k]
        exact ih _ hL _ _ _ _
      · skip
        exact absurd rfl c3
  · skip
    exact absurd ek c1
set_option maxHeartbeats 8000000 in
theorem lc_write (hG : GOk G) (hN : GNc G) (hF : Ok G F RL cL_law 9 (some .boolean)) (hRm : fR F = { frames := 12, cells := 693274, slots := 7016281, locals := 448 }) (hX : SX G sb n xs) (hn : n ≤ 3072) (hi : 6 * k + 6 ≤ n) (hI : LI a b c k h) (ih : ∀ h', LI a b c (k + 1) h' → ∀ z5 z6 z7 z8, V G F Q kc ks 23 [some (.ref sb), some (.ref a), some (.ref b), some (.ref c), some (.int (nI (6 * (k + 1)))), z5, z6, z7, z8] [] h') : V G F Q (kc + 200) (ks + 1200) 252 [some (.ref sb), some (.ref a), some (.ref b), some (.ref c), some (.int (nI (6 * k))), none, none, none, none] [] h := by
  obtain ⟨A, σ, P, r, B, x, u, md, hs, o, rfl, rfl, hC, hM, hR, hA, hy, ho, dAB, dAc, dBc⟩ := hI
  have k512 : k < 512 := by omega
  have hS : 999 * (k : Int) ≤ 1073741824 := by omega
  have hA1 : Am σ (999 * ((k + 1 : Nat) : Int)) := hA.up (by omega)
  have hy1 : gy σ ≤ 40 * (k + 1) := by omega
  refine V.run hF [(.aload_n 1, 1, .null), (.aload_n 0, 1, .null), (.iload 4, 2, .null), (.iconst 1, 1, .int (nI 1)), (.iadd, 1, .null)] (pc' := 258) (L' := [some (.ref sb), some (.ref (A 0)), some (.ref (B 0)), some (.ref c), some (.int (nI (6 * k))), none, none, none, none]) (st' := [.int (nI (6 * k) + nI 1), .ref sb, .ref (A 0)]) (by decide +kernel) rfl ?_
  rw [nI_add (6 * k) 1]
  refine V.sld (j := 6 * k + 1) hF hX (by decide +kernel) (by omega) (by omega) ?_
  refine V.run hF [(.aload_n 0, 1, .null), (.iload 4, 2, .null), (.iconst 2, 1, .int (nI 2)), (.iadd, 1, .null)] (pc' := 264) (L' := [some (.ref sb), some (.ref (A 0)), some (.ref (B 0)), some (.ref c), some (.int (nI (6 * k))), none, none, none, none]) (st' := [.int (nI (6 * k) + nI 2), .ref sb, .int (xs (6 * k + 1)), .ref (A 0)]) (by decide +kernel) rfl ?_
  rw [nI_add (6 * k) 2]
  refine V.sld (j := 6 * k + 2) hF hX (by decide +kernel) (by omega) (by omega) ?_
  refine V.run hF [(.aload_n 0, 1, .null), (.iload 4, 2, .null), (.iconst 3, 1, .int (nI 3)), (.iadd, 1, .null)] (pc' := 270) (L' := [some (.ref sb), some (.ref (A 0)), some (.ref (B 0)), some (.ref c), some (.int (nI (6 * k))), none, none, none, none]) (st' := [.int (nI (6 * k) + nI 3), .ref sb, .int (xs (6 * k + 2)), .int (xs (6 * k + 1)), .ref (A 0)]) (by decide +kernel) rfl ?_
  rw [nI_add (6 * k) 3]
  refine V.sld (j := 6 * k + 3) hF hX (by decide +kernel) (by omega) (by omega) ?_
  refine V.run hF [(.aload_n 0, 1, .null), (.iload 4, 2, .null), (.iconst 4, 1, .int (nI 4)), (.iadd, 1, .null)] (pc' := 276) (L' := [some (.ref sb), some (.ref (A 0)), some (.ref (B 0)), some (.ref c), some (.int (nI (6 * k))), none, none, none, none]) (st' := [.int (nI (6 * k) + nI 4), .ref sb, .int (xs (6 * k + 3)), .int (xs (6 * k + 2)), .int (xs (6 * k + 1)), .ref (A 0)]) (by decide +kernel) rfl ?_
  rw [nI_add (6 * k) 4]
  refine V.sld (j := 6 * k + 4) hF hX (by decide +kernel) (by omega) (by omega) ?_
  refine V.run hF [(.aload_n 0, 1, .null), (.iload 4, 2, .null), (.iconst 5, 1, .int (nI 5)), (.iadd, 1, .null)] (pc' := 282) (L' := [some (.ref sb), some (.ref (A 0)), some (.ref (B 0)), some (.ref c), some (.int (nI (6 * k))), none, none, none, none]) (st' := [.int (nI (6 * k) + nI 5), .ref sb, .int (xs (6 * k + 4)), .int (xs (6 * k + 3)), .int (xs (6 * k + 2)), .int (xs (6 * k + 1)), .ref (A 0)]) (by decide +kernel) rfl ?_
  rw [nI_add (6 * k) 5]
  refine V.sld (j := 6 * k + 5) hF hX (by decide +kernel) (by omega) (by omega) ?_
  refine V.run hF [(.aload_n 3, 1, .null)] (pc' := 284) (L' := [some (.ref sb), some (.ref (A 0)), some (.ref (B 0)), some (.ref c), some (.int (nI (6 * k))), none, none, none, none]) (st' := [.ref c, .int (xs (6 * k + 5)), .int (xs (6 * k + 4)), .int (xs (6 * k + 3)), .int (xs (6 * k + 2)), .int (xs (6 * k + 1)), .ref (A 0)]) (by decide +kernel) rfl ?_
  refine V.less (kc' := kc + 8) (ks' := ks + 48) (by omega) (by omega) ?_
  refine V.callSW (As := [.ref (A 0), .int (xs (6 * k + 1)), .int (xs (6 * k + 2)), .int (xs (6 * k + 3)), .int (xs (6 * k + 4)), .int (xs (6 * k + 5)), .ref c]) (st := []) hG hF k_RL_107 (by decide +kernel) (n_write hG hN hC ho dAc (xs (6 * k + 1)) (xs (6 * k + 2)) (xs (6 * k + 3)) (xs (6 * k + 4)) (xs (6 * k + 5))) rfl ⟨by rw [hRm]; decide, by rw [hRm]; decide⟩ (Nat.le_of_ble_eq_true rfl) rfl (fun v1 h1 hp => ?_) (fun E h9 hx => hx.elim)
  obtain ⟨k1, σ', A1, P1, r1, o1, rfl, s1, d1, hC1, ho1, e10, e11, e12⟩ := hp
  have hM1 := LI_B hM dAB dBc e12
  show V G F _ _ _ 287 [some (.ref sb), some (.ref (A 0)), some (.ref (B 0)), some (.ref c), some (.int (nI (6 * k))), none, none, none, none] [.int k1] h1
  refine V.run hF [(.istore 5, 2, .null), (.aload_n 2, 1, .null), (.aload_n 0, 1, .null), (.iload 4, 2, .null), (.iconst 1, 1, .int (nI 1)), (.iadd, 1, .null)] (pc' := 295) (L' := [some (.ref sb), some (.ref (A 0)), some (.ref (B 0)), some (.ref c), some (.int (nI (6 * k))), some (.int k1), none, none, none]) (st' := [.int (nI (6 * k) + nI 1), .ref sb, .ref (B 0)]) (by decide +kernel) rfl ?_
  rw [nI_add (6 * k) 1]
  refine V.sld (j := 6 * k + 1) hF hX (by decide +kernel) (by omega) (by omega) ?_
  refine V.run hF [(.aload_n 0, 1, .null), (.iload 4, 2, .null), (.iconst 2, 1, .int (nI 2)), (.iadd, 1, .null)] (pc' := 301) (L' := [some (.ref sb), some (.ref (A 0)), some (.ref (B 0)), some (.ref c), some (.int (nI (6 * k))), some (.int k1), none, none, none]) (st' := [.int (nI (6 * k) + nI 2), .ref sb, .int (xs (6 * k + 1)), .ref (B 0)]) (by decide +kernel) rfl ?_
  rw [nI_add (6 * k) 2]
  refine V.sld (j := 6 * k + 2) hF hX (by decide +kernel) (by omega) (by omega) ?_
  refine V.run hF [(.aload_n 0, 1, .null), (.iload 4, 2, .null), (.iconst 3, 1, .int (nI 3)), (.iadd, 1, .null)] (pc' := 307) (L' := [some (.ref sb), some (.ref (A 0)), some (.ref (B 0)), some (.ref c), some (.int (nI (6 * k))), some (.int k1), none, none, none]) (st' := [.int (nI (6 * k) + nI 3), .ref sb, .int (xs (6 * k + 2)), .int (xs (6 * k + 1)), .ref (B 0)]) (by decide +kernel) rfl ?_
  rw [nI_add (6 * k) 3]
  refine V.sld (j := 6 * k + 3) hF hX (by decide +kernel) (by omega) (by omega) ?_
  refine V.run hF [(.aload_n 0, 1, .null), (.iload 4, 2, .null), (.iconst 4, 1, .int (nI 4)), (.iadd, 1, .null)] (pc' := 313) (L' := [some (.ref sb), some (.ref (A 0)), some (.ref (B 0)), some (.ref c), some (.int (nI (6 * k))), some (.int k1), none, none, none]) (st' := [.int (nI (6 * k) + nI 4), .ref sb, .int (xs (6 * k + 3)), .int (xs (6 * k + 2)), .int (xs (6 * k + 1)), .ref (B 0)]) (by decide +kernel) rfl ?_
  rw [nI_add (6 * k) 4]
  refine V.sld (j := 6 * k + 4) hF hX (by decide +kernel) (by omega) (by omega) ?_
  refine V.run hF [(.aload_n 0, 1, .null), (.iload 4, 2, .null), (.iconst 5, 1, .int (nI 5)), (.iadd, 1, .null)] (pc' := 319) (L' := [some (.ref sb), some (.ref (A 0)), some (.ref (B 0)), some (.ref c), some (.int (nI (6 * k))), some (.int k1), none, none, none]) (st' := [.int (nI (6 * k) + nI 5), .ref sb, .int (xs (6 * k + 4)), .int (xs (6 * k + 3)), .int (xs (6 * k + 2)), .int (xs (6 * k + 1)), .ref (B 0)]) (by decide +kernel) rfl ?_
  rw [nI_add (6 * k) 5]
  refine V.sld (j := 6 * k + 5) hF hX (by decide +kernel) (by omega) (by omega) ?_
  refine V.callV (As := [.int (xs (6 * k + 1)), .int (xs (6 * k + 2)), .int (xs (6 * k + 3)), .int (xs (6 * k + 4)), .int (xs (6 * k + 5))]) (st := []) hG hF k_RL_110 (by decide +kernel) (m_write hG hM1 hR (xs (6 * k + 1)) (xs (6 * k + 2)) (xs (6 * k + 3)) (xs (6 * k + 4)) (xs (6 * k + 5))) hM1.2.1 rfl rfl ⟨by rw [hRm]; decide, by rw [hRm]; decide⟩ (Nat.le_of_ble_eq_true rfl) rfl (fun v2 h2 hp2 => ?_) (fun E h9 hx => hx.elim)
  obtain ⟨k2, y, σ2, u2, md2, hs2, rfl, s2, d2, hR2, hM2, hk2⟩ := hp2
  have ek : k2 = k1 := st3_u s2 s1
  obtain ⟨rfl, jo, jA, jy⟩ := joinR (R := RI k) ek d1 d2 (fun z => by
    rw [z] at s1
    obtain ⟨⟨⟨t, ht, e⟩, -⟩, q2, -⟩ := st3_0 s1
    rw [e, nI_clamp (by have := hC.2.1; omega)]
    exact ⟨(hA.wr ht q2).up (by omega), hy1⟩) ⟨hA1, hy1⟩
  have hL := LI_next hM ho dAB dAc dBc hC1 ho1 e10 e11 hR2 hM2 hk2 jA jy
  have ho2 : h2 c = some (out1 o1) := hk2 c _ ho1 (fun j hj q => dBc j hj q.symm)
  show V G F _ _ _ 323 [some (.ref sb), some (.ref (A 0)), some (.ref (B 0)), some (.ref c), some (.int (nI (6 * k))), some (.int k1), none, none, none] [.int y] h2
  refine V.run hF [(.istore 6, 2, .null), (.aload_n 2, 1, .null)] (pc' := 326) (L' := [some (.ref sb), some (.ref (A 0)), some (.ref (B 0)), some (.ref c), some (.int (nI (6 * k))), some (.int k1), some (.int y), none, none]) (st' := [.ref (B 0)]) (by decide +kernel) rfl ?_
  refine V.callV (As := []) (st := []) hG hF k_RL_103 (by decide +kernel) (c_X4_thrown hG hM2) hM2.2.1 rfl rfl ⟨by rw [hRm]; decide, by rw [hRm]; decide⟩ (Nat.le_of_ble_eq_true rfl) rfl (fun v h_3 gp3 => ?_) (fun E h9 hx => hx.elim)
  obtain ⟨rfl, he_gp3⟩ := gp3
  rw [he_gp3]
  show V G F _ _ _ 329 [some (.ref sb), some (.ref (A 0)), some (.ref (B 0)), some (.ref c), some (.int (nI (6 * k))), some (.int k1), some (.int y), none, none] [.int k2] h2
  refine V.run hF [(.iload 5, 2, .null)] (pc' := 331) (L' := [some (.ref sb), some (.ref (A 0)), some (.ref (B 0)), some (.ref c), some (.int (nI (6 * k))), some (.int k1), some (.int y), none, none]) (st' := [.int k1, .int k2]) (by decide +kernel) rfl ?_
  refine V.icmp_eq hF (off := 5) (tgt := 336) (by decide +kernel) (by decide) (fun c1 => ?_) (fun c1 => ?_)
  · skip
    refine V.run hF [(.iload 5, 2, .null)] (pc' := 338) (L' := [some (.ref sb), some (.ref (A 0)), some (.ref (B 0)), some (.ref c), some (.int (nI (6 * k))), some (.int k1), some (.int y), none, none]) (st' := [.int k1]) (by decide +kernel) rfl ?_
    refine V.if_ne hF (off := 15) (tgt := 353) (by decide +kernel) (by decide) (fun c2 => ?_) (fun c2 => ?_)
    · skip
      refine V.run hF [(.goto 1562, 3, .null), (.iinc 4 6, 3, .int 6), (.goto (-1895), 3, .null)] (pc' := 23) (L' := [some (.ref sb), some (.ref (A 0)), some (.ref (B 0)), some (.ref c), some (.int ((nI (6 * k)) + 6)), some (.int k1), some (.int y), none, none]) (st' := []) (by decide +kernel) rfl ?_
      rw [n6 k]
      exact ih _ hL _ _ _ _
    · skip
      refine V.run hF [(.aload_n 3, 1, .null), (.iconst 0, 1, .int (nI 0))] (pc' := 343) (L' := [some (.ref sb), some (.ref (A 0)), some (.ref (B 0)), some (.ref c), some (.int (nI (6 * k))), some (.int k1), some (.int y), none, none]) (st' := [.int (nI 0), .ref c]) (by decide +kernel) rfl ?_
      refine V.laldN (j := 0) hG hF (by decide +kernel) ho2 (by omega) (by decide) ?_
      refine V.run hF [(.iload 6, 2, .null), (.i2l, 1, .null), (.lcmp, 1, .null)] (pc' := 348) (L' := [some (.ref sb), some (.ref (A 0)), some (.ref (B 0)), some (.ref c), some (.int (nI (6 * k))), some (.int k1), some (.int y), none, none]) (st' := [.int (lg_cmp (o1 0) (Int32.toInt64 y))]) (by decide +kernel) rfl ?_
      rw [(lg_cmp_eq _ _).mpr (jo c2)]
      refine V.if_eq hF (off := 5) (tgt := 353) (by decide +kernel) (by decide) (fun c3 => ?_) (fun c3 => ?_)
      · skip
        refine V.run hF [(.goto 1562, 3, .null), (.iinc 4 6, 3, .int 6), (.goto (-1895), 3, .null)] (pc' := 23) (L' := [some (.ref sb), some (.ref (A 0)), some (.ref (B 0)), some (.ref c), some (.int ((nI (6 * k)) + 6)), some (.int k1), some (.int y), none, none]) (st' := []) (by decide +kernel) rfl ?_
        rw [n6 k]
        exact ih _ hL _ _ _ _
      · skip
        exact absurd rfl c3
  · skip
    exact absurd ek c1
set_option maxHeartbeats 8000000 in
theorem lc_pay (hG : GOk G) (hN : GNc G) (hF : Ok G F RL cL_law 9 (some .boolean)) (hRm : fR F = { frames := 12, cells := 693274, slots := 7016281, locals := 448 }) (hX : SX G sb n xs) (hn : n ≤ 3072) (hi : 6 * k + 6 ≤ n) (hI : LI a b c k h) (ih : ∀ h', LI a b c (k + 1) h' → ∀ z5 z6 z7 z8, V G F Q kc ks 23 [some (.ref sb), some (.ref a), some (.ref b), some (.ref c), some (.int (nI (6 * (k + 1)))), z5, z6, z7, z8] [] h') : V G F Q (kc + 200) (ks + 1200) 356 [some (.ref sb), some (.ref a), some (.ref b), some (.ref c), some (.int (nI (6 * k))), none, none, none, none] [] h := by
  obtain ⟨A, σ, P, r, B, x, u, md, hs, o, rfl, rfl, hC, hM, hR, hA, hy, ho, dAB, dAc, dBc⟩ := hI
  have k512 : k < 512 := by omega
  have hS : 999 * (k : Int) ≤ 1073741824 := by omega
  have hA1 : Am σ (999 * ((k + 1 : Nat) : Int)) := hA.up (by omega)
  have hy1 : gy σ ≤ 40 * (k + 1) := by omega
  refine V.run hF [(.aload_n 1, 1, .null), (.aload_n 0, 1, .null), (.iload 4, 2, .null), (.iconst 1, 1, .int (nI 1)), (.iadd, 1, .null)] (pc' := 362) (L' := [some (.ref sb), some (.ref (A 0)), some (.ref (B 0)), some (.ref c), some (.int (nI (6 * k))), none, none, none, none]) (st' := [.int (nI (6 * k) + nI 1), .ref sb, .ref (A 0)]) (by decide +kernel) rfl ?_
  rw [nI_add (6 * k) 1]
  refine V.sld (j := 6 * k + 1) hF hX (by decide +kernel) (by omega) (by omega) ?_
  refine V.run hF [(.aload_n 0, 1, .null), (.iload 4, 2, .null), (.iconst 2, 1, .int (nI 2)), (.iadd, 1, .null)] (pc' := 368) (L' := [some (.ref sb), some (.ref (A 0)), some (.ref (B 0)), some (.ref c), some (.int (nI (6 * k))), none, none, none, none]) (st' := [.int (nI (6 * k) + nI 2), .ref sb, .int (xs (6 * k + 1)), .ref (A 0)]) (by decide +kernel) rfl ?_
  rw [nI_add (6 * k) 2]
  refine V.sld (j := 6 * k + 2) hF hX (by decide +kernel) (by omega) (by omega) ?_
  refine V.run hF [(.aload_n 0, 1, .null), (.iload 4, 2, .null), (.iconst 3, 1, .int (nI 3)), (.iadd, 1, .null)] (pc' := 374) (L' := [some (.ref sb), some (.ref (A 0)), some (.ref (B 0)), some (.ref c), some (.int (nI (6 * k))), none, none, none, none]) (st' := [.int (nI (6 * k) + nI 3), .ref sb, .int (xs (6 * k + 2)), .int (xs (6 * k + 1)), .ref (A 0)]) (by decide +kernel) rfl ?_
  rw [nI_add (6 * k) 3]
  refine V.sld (j := 6 * k + 3) hF hX (by decide +kernel) (by omega) (by omega) ?_
  refine V.run hF [(.aload_n 3, 1, .null)] (pc' := 376) (L' := [some (.ref sb), some (.ref (A 0)), some (.ref (B 0)), some (.ref c), some (.int (nI (6 * k))), none, none, none, none]) (st' := [.ref c, .int (xs (6 * k + 3)), .int (xs (6 * k + 2)), .int (xs (6 * k + 1)), .ref (A 0)]) (by decide +kernel) rfl ?_
  refine V.less (kc' := kc + 3) (ks' := ks + 18) (by omega) (by omega) ?_
  refine V.callSW (As := [.ref (A 0), .int (xs (6 * k + 1)), .int (xs (6 * k + 2)), .int (xs (6 * k + 3)), .ref c]) (st := []) hG hF k_RL_111 (by decide +kernel) (n_pay hG hN hC ho dAc (xs (6 * k + 1)) (xs (6 * k + 2)) (xs (6 * k + 3))) rfl ⟨by rw [hRm]; decide, by rw [hRm]; decide⟩ (Nat.le_of_ble_eq_true rfl) rfl (fun v1 h1 hp => ?_) (fun E h9 hx => hx.elim)
  obtain ⟨k1, σ', A1, P1, r1, o1, rfl, s1, d1, hC1, ho1, e10, e11, e12⟩ := hp
  have hM1 := LI_B hM dAB dBc e12
  show V G F _ _ _ 379 [some (.ref sb), some (.ref (A 0)), some (.ref (B 0)), some (.ref c), some (.int (nI (6 * k))), none, none, none, none] [.int k1] h1
  refine V.run hF [(.istore 5, 2, .null), (.aload_n 2, 1, .null), (.aload_n 0, 1, .null), (.iload 4, 2, .null), (.iconst 1, 1, .int (nI 1)), (.iadd, 1, .null)] (pc' := 387) (L' := [some (.ref sb), some (.ref (A 0)), some (.ref (B 0)), some (.ref c), some (.int (nI (6 * k))), some (.int k1), none, none, none]) (st' := [.int (nI (6 * k) + nI 1), .ref sb, .ref (B 0)]) (by decide +kernel) rfl ?_
  rw [nI_add (6 * k) 1]
  refine V.sld (j := 6 * k + 1) hF hX (by decide +kernel) (by omega) (by omega) ?_
  refine V.run hF [(.aload_n 0, 1, .null), (.iload 4, 2, .null), (.iconst 2, 1, .int (nI 2)), (.iadd, 1, .null)] (pc' := 393) (L' := [some (.ref sb), some (.ref (A 0)), some (.ref (B 0)), some (.ref c), some (.int (nI (6 * k))), some (.int k1), none, none, none]) (st' := [.int (nI (6 * k) + nI 2), .ref sb, .int (xs (6 * k + 1)), .ref (B 0)]) (by decide +kernel) rfl ?_
  rw [nI_add (6 * k) 2]
  refine V.sld (j := 6 * k + 2) hF hX (by decide +kernel) (by omega) (by omega) ?_
  refine V.run hF [(.aload_n 0, 1, .null), (.iload 4, 2, .null), (.iconst 3, 1, .int (nI 3)), (.iadd, 1, .null)] (pc' := 399) (L' := [some (.ref sb), some (.ref (A 0)), some (.ref (B 0)), some (.ref c), some (.int (nI (6 * k))), some (.int k1), none, none, none]) (st' := [.int (nI (6 * k) + nI 3), .ref sb, .int (xs (6 * k + 2)), .int (xs (6 * k + 1)), .ref (B 0)]) (by decide +kernel) rfl ?_
  rw [nI_add (6 * k) 3]
  refine V.sld (j := 6 * k + 3) hF hX (by decide +kernel) (by omega) (by omega) ?_
  refine V.callV (As := [.int (xs (6 * k + 1)), .int (xs (6 * k + 2)), .int (xs (6 * k + 3))]) (st := []) hG hF k_RL_114 (by decide +kernel) (m_pay hG hM1 hR (pos_of hA) (xs (6 * k + 1)) (xs (6 * k + 2)) (xs (6 * k + 3))) hM1.2.1 rfl rfl ⟨by rw [hRm]; decide, by rw [hRm]; decide⟩ (Nat.le_of_ble_eq_true rfl) rfl (fun v2 h2 hp2 => ?_) (fun E h9 hx => hx.elim)
  obtain ⟨k2, y, σ2, u2, md2, hs2, rfl, s2, d2, hR2, hM2, hk2⟩ := hp2
  have ek : k2 = k1 := st2_u s2 s1
  obtain ⟨rfl, jo, jA, jy⟩ := joinR (R := RI k) ek d1 d2 (fun z => by
    rw [z] at s1
    obtain ⟨⟨t, l, ht, hl, e, e2⟩, q2, q3⟩ := st2_0 s1
    have l12 := (hC.2.2.2.2.2.2.2.2 t ht).2.2
    have et : (nI t).toNatClampNeg = t := nI_clamp (by have := hC.2.1; omega)
    have el : (nI l).toNatClampNeg = l := nI_clamp (by omega)
    unfold am at q3
    rw [e, e2, et, el] at q3
    rw [e, e2, et, el]
    refine ⟨(hA.py ht hl q2 q3).up (by omega), ?_⟩
    have : gy (sPay σ t l (xs (6 * k + 3))) = gy σ := by
      unfold sPay
      split <;> rfl
    rw [this]
    exact hy1) ⟨hA1, hy1⟩
  have hL := LI_next hM ho dAB dAc dBc hC1 ho1 e10 e11 hR2 hM2 hk2 jA jy
  have ho2 : h2 c = some (out1 o1) := hk2 c _ ho1 (fun j hj q => dBc j hj q.symm)
  show V G F _ _ _ 403 [some (.ref sb), some (.ref (A 0)), some (.ref (B 0)), some (.ref c), some (.int (nI (6 * k))), some (.int k1), none, none, none] [.int y] h2
  refine V.run hF [(.istore 6, 2, .null), (.aload_n 2, 1, .null)] (pc' := 406) (L' := [some (.ref sb), some (.ref (A 0)), some (.ref (B 0)), some (.ref c), some (.int (nI (6 * k))), some (.int k1), some (.int y), none, none]) (st' := [.ref (B 0)]) (by decide +kernel) rfl ?_
  refine V.callV (As := []) (st := []) hG hF k_RL_103 (by decide +kernel) (c_X4_thrown hG hM2) hM2.2.1 rfl rfl ⟨by rw [hRm]; decide, by rw [hRm]; decide⟩ (Nat.le_of_ble_eq_true rfl) rfl (fun v h_3 gp3 => ?_) (fun E h9 hx => hx.elim)
  obtain ⟨rfl, he_gp3⟩ := gp3
  rw [he_gp3]
  show V G F _ _ _ 409 [some (.ref sb), some (.ref (A 0)), some (.ref (B 0)), some (.ref c), some (.int (nI (6 * k))), some (.int k1), some (.int y), none, none] [.int k2] h2
  refine V.run hF [(.iload 5, 2, .null)] (pc' := 411) (L' := [some (.ref sb), some (.ref (A 0)), some (.ref (B 0)), some (.ref c), some (.int (nI (6 * k))), some (.int k1), some (.int y), none, none]) (st' := [.int k1, .int k2]) (by decide +kernel) rfl ?_
  refine V.icmp_eq hF (off := 5) (tgt := 416) (by decide +kernel) (by decide) (fun c1 => ?_) (fun c1 => ?_)
  · skip
    refine V.run hF [(.iload 5, 2, .null)] (pc' := 418) (L' := [some (.ref sb), some (.ref (A 0)), some (.ref (B 0)), some (.ref c), some (.int (nI (6 * k))), some (.int k1), some (.int y), none, none]) (st' := [.int k1]) (by decide +kernel) rfl ?_
    refine V.if_ne hF (off := 15) (tgt := 433) (by decide +kernel) (by decide) (fun c2 => ?_) (fun c2 => ?_)
    · skip
      refine V.run hF [(.goto 1482, 3, .null), (.iinc 4 6, 3, .int 6), (.goto (-1895), 3, .null)] (pc' := 23) (L' := [some (.ref sb), some (.ref (A 0)), some (.ref (B 0)), some (.ref c), some (.int ((nI (6 * k)) + 6)), some (.int k1), some (.int y), none, none]) (st' := []) (by decide +kernel) rfl ?_
      rw [n6 k]
      exact ih _ hL _ _ _ _
    · skip
      refine V.run hF [(.aload_n 3, 1, .null), (.iconst 0, 1, .int (nI 0))] (pc' := 423) (L' := [some (.ref sb), some (.ref (A 0)), some (.ref (B 0)), some (.ref c), some (.int (nI (6 * k))), some (.int k1), some (.int y), none, none]) (st' := [.int (nI 0), .ref c]) (by decide +kernel) rfl ?_
      refine V.laldN (j := 0) hG hF (by decide +kernel) ho2 (by omega) (by decide) ?_
      refine V.run hF [(.iload 6, 2, .null), (.i2l, 1, .null), (.lcmp, 1, .null)] (pc' := 428) (L' := [some (.ref sb), some (.ref (A 0)), some (.ref (B 0)), some (.ref c), some (.int (nI (6 * k))), some (.int k1), some (.int y), none, none]) (st' := [.int (lg_cmp (o1 0) (Int32.toInt64 y))]) (by decide +kernel) rfl ?_
      rw [(lg_cmp_eq _ _).mpr (jo c2)]
      refine V.if_eq hF (off := 5) (tgt := 433) (by decide +kernel) (by decide) (fun c3 => ?_) (fun c3 => ?_)
      · skip
        refine V.run hF [(.goto 1482, 3, .null), (.iinc 4 6, 3, .int 6), (.goto (-1895), 3, .null)] (pc' := 23) (L' := [some (.ref sb), some (.ref (A 0)), some (.ref (B 0)), some (.ref c), some (.int ((nI (6 * k)) + 6)), some (.int k1), some (.int y), none, none]) (st' := []) (by decide +kernel) rfl ?_
        rw [n6 k]
        exact ih _ hL _ _ _ _
      · skip
        exact absurd rfl c3
  · skip
    exact absurd ek c1
set_option maxHeartbeats 8000000 in
theorem lc_deny (hG : GOk G) (hN : GNc G) (hF : Ok G F RL cL_law 9 (some .boolean)) (hRm : fR F = { frames := 12, cells := 693274, slots := 7016281, locals := 448 }) (hX : SX G sb n xs) (hn : n ≤ 3072) (hi : 6 * k + 6 ≤ n) (hI : LI a b c k h) (ih : ∀ h', LI a b c (k + 1) h' → ∀ z5 z6 z7 z8, V G F Q kc ks 23 [some (.ref sb), some (.ref a), some (.ref b), some (.ref c), some (.int (nI (6 * (k + 1)))), z5, z6, z7, z8] [] h') : V G F Q (kc + 200) (ks + 1200) 436 [some (.ref sb), some (.ref a), some (.ref b), some (.ref c), some (.int (nI (6 * k))), none, none, none, none] [] h := by
  obtain ⟨A, σ, P, r, B, x, u, md, hs, o, rfl, rfl, hC, hM, hR, hA, hy, ho, dAB, dAc, dBc⟩ := hI
  have k512 : k < 512 := by omega
  have hS : 999 * (k : Int) ≤ 1073741824 := by omega
  have hA1 : Am σ (999 * ((k + 1 : Nat) : Int)) := hA.up (by omega)
  have hy1 : gy σ ≤ 40 * (k + 1) := by omega
  refine V.run hF [(.aload_n 1, 1, .null), (.aload_n 0, 1, .null), (.iload 4, 2, .null), (.iconst 1, 1, .int (nI 1)), (.iadd, 1, .null)] (pc' := 442) (L' := [some (.ref sb), some (.ref (A 0)), some (.ref (B 0)), some (.ref c), some (.int (nI (6 * k))), none, none, none, none]) (st' := [.int (nI (6 * k) + nI 1), .ref sb, .ref (A 0)]) (by decide +kernel) rfl ?_
  rw [nI_add (6 * k) 1]
  refine V.sld (j := 6 * k + 1) hF hX (by decide +kernel) (by omega) (by omega) ?_
  refine V.run hF [(.aload_n 0, 1, .null), (.iload 4, 2, .null), (.iconst 2, 1, .int (nI 2)), (.iadd, 1, .null)] (pc' := 448) (L' := [some (.ref sb), some (.ref (A 0)), some (.ref (B 0)), some (.ref c), some (.int (nI (6 * k))), none, none, none, none]) (st' := [.int (nI (6 * k) + nI 2), .ref sb, .int (xs (6 * k + 1)), .ref (A 0)]) (by decide +kernel) rfl ?_
  rw [nI_add (6 * k) 2]
  refine V.sld (j := 6 * k + 2) hF hX (by decide +kernel) (by omega) (by omega) ?_
  refine V.run hF [(.aload_n 3, 1, .null)] (pc' := 450) (L' := [some (.ref sb), some (.ref (A 0)), some (.ref (B 0)), some (.ref c), some (.int (nI (6 * k))), none, none, none, none]) (st' := [.ref c, .int (xs (6 * k + 2)), .int (xs (6 * k + 1)), .ref (A 0)]) (by decide +kernel) rfl ?_
  refine V.less (kc' := kc + 4) (ks' := ks + 24) (by omega) (by omega) ?_
  refine V.callSW (As := [.ref (A 0), .int (xs (6 * k + 1)), .int (xs (6 * k + 2)), .ref c]) (st := []) hG hF k_RL_115 (by decide +kernel) (n_deny hG hN hC ho dAc (xs (6 * k + 1)) (xs (6 * k + 2))) rfl ⟨by rw [hRm]; decide, by rw [hRm]; decide⟩ (Nat.le_of_ble_eq_true rfl) rfl (fun v1 h1 hp => ?_) (fun E h9 hx => hx.elim)
  obtain ⟨k1, σ', A1, P1, r1, o1, rfl, s1, d1, hC1, ho1, e10, e11, e12⟩ := hp
  have hM1 := LI_B hM dAB dBc e12
  show V G F _ _ _ 453 [some (.ref sb), some (.ref (A 0)), some (.ref (B 0)), some (.ref c), some (.int (nI (6 * k))), none, none, none, none] [.int k1] h1
  refine V.run hF [(.istore 5, 2, .null), (.aload_n 2, 1, .null), (.aload_n 0, 1, .null), (.iload 4, 2, .null), (.iconst 1, 1, .int (nI 1)), (.iadd, 1, .null)] (pc' := 461) (L' := [some (.ref sb), some (.ref (A 0)), some (.ref (B 0)), some (.ref c), some (.int (nI (6 * k))), some (.int k1), none, none, none]) (st' := [.int (nI (6 * k) + nI 1), .ref sb, .ref (B 0)]) (by decide +kernel) rfl ?_
  rw [nI_add (6 * k) 1]
  refine V.sld (j := 6 * k + 1) hF hX (by decide +kernel) (by omega) (by omega) ?_
  refine V.run hF [(.aload_n 0, 1, .null), (.iload 4, 2, .null), (.iconst 2, 1, .int (nI 2)), (.iadd, 1, .null)] (pc' := 467) (L' := [some (.ref sb), some (.ref (A 0)), some (.ref (B 0)), some (.ref c), some (.int (nI (6 * k))), some (.int k1), none, none, none]) (st' := [.int (nI (6 * k) + nI 2), .ref sb, .int (xs (6 * k + 1)), .ref (B 0)]) (by decide +kernel) rfl ?_
  rw [nI_add (6 * k) 2]
  refine V.sld (j := 6 * k + 2) hF hX (by decide +kernel) (by omega) (by omega) ?_
  refine V.callV (As := [.int (xs (6 * k + 1)), .int (xs (6 * k + 2))]) (st := []) hG hF k_RL_118 (by decide +kernel) (m_deny hG hM1 hR (xs (6 * k + 1)) (xs (6 * k + 2))) hM1.2.1 rfl rfl ⟨by rw [hRm]; decide, by rw [hRm]; decide⟩ (Nat.le_of_ble_eq_true rfl) rfl (fun v2 h2 hp2 => ?_) (fun E h9 hx => hx.elim)
  obtain ⟨k2, y, σ2, u2, md2, hs2, rfl, s2, d2, hR2, hM2, hk2⟩ := hp2
  have ek : k2 = k1 := st2_u s2 s1
  obtain ⟨rfl, jo, jA, jy⟩ := joinR (R := RI k) ek d1 d2 (fun z => by
    rw [z] at s1
    obtain ⟨⟨t, l, ht, hl, e, e2⟩, -⟩ := st2_0 s1
    have l12 := (hC.2.2.2.2.2.2.2.2 t ht).2.2
    rw [e, e2, nI_clamp (n := t) (by have := hC.2.1; omega), nI_clamp (n := l) (by omega)]
    exact ⟨(hA.dy ht hl).up (by omega), hy1⟩) ⟨hA1, hy1⟩
  have hL := LI_next hM ho dAB dAc dBc hC1 ho1 e10 e11 hR2 hM2 hk2 jA jy
  have ho2 : h2 c = some (out1 o1) := hk2 c _ ho1 (fun j hj q => dBc j hj q.symm)
  show V G F _ _ _ 471 [some (.ref sb), some (.ref (A 0)), some (.ref (B 0)), some (.ref c), some (.int (nI (6 * k))), some (.int k1), none, none, none] [.int y] h2
  refine V.run hF [(.istore 6, 2, .null), (.aload_n 2, 1, .null)] (pc' := 474) (L' := [some (.ref sb), some (.ref (A 0)), some (.ref (B 0)), some (.ref c), some (.int (nI (6 * k))), some (.int k1), some (.int y), none, none]) (st' := [.ref (B 0)]) (by decide +kernel) rfl ?_
  refine V.callV (As := []) (st := []) hG hF k_RL_103 (by decide +kernel) (c_X4_thrown hG hM2) hM2.2.1 rfl rfl ⟨by rw [hRm]; decide, by rw [hRm]; decide⟩ (Nat.le_of_ble_eq_true rfl) rfl (fun v h_3 gp3 => ?_) (fun E h9 hx => hx.elim)
  obtain ⟨rfl, he_gp3⟩ := gp3
  rw [he_gp3]
  show V G F _ _ _ 477 [some (.ref sb), some (.ref (A 0)), some (.ref (B 0)), some (.ref c), some (.int (nI (6 * k))), some (.int k1), some (.int y), none, none] [.int k2] h2
  refine V.run hF [(.iload 5, 2, .null)] (pc' := 479) (L' := [some (.ref sb), some (.ref (A 0)), some (.ref (B 0)), some (.ref c), some (.int (nI (6 * k))), some (.int k1), some (.int y), none, none]) (st' := [.int k1, .int k2]) (by decide +kernel) rfl ?_
  refine V.icmp_eq hF (off := 5) (tgt := 484) (by decide +kernel) (by decide) (fun c1 => ?_) (fun c1 => ?_)
  · skip
    refine V.run hF [(.iload 5, 2, .null)] (pc' := 486) (L' := [some (.ref sb), some (.ref (A 0)), some (.ref (B 0)), some (.ref c), some (.int (nI (6 * k))), some (.int k1), some (.int y), none, none]) (st' := [.int k1]) (by decide +kernel) rfl ?_
    refine V.if_ne hF (off := 15) (tgt := 501) (by decide +kernel) (by decide) (fun c2 => ?_) (fun c2 => ?_)
    · skip
      refine V.run hF [(.goto 1414, 3, .null), (.iinc 4 6, 3, .int 6), (.goto (-1895), 3, .null)] (pc' := 23) (L' := [some (.ref sb), some (.ref (A 0)), some (.ref (B 0)), some (.ref c), some (.int ((nI (6 * k)) + 6)), some (.int k1), some (.int y), none, none]) (st' := []) (by decide +kernel) rfl ?_
      rw [n6 k]
      exact ih _ hL _ _ _ _
    · skip
      refine V.run hF [(.aload_n 3, 1, .null), (.iconst 0, 1, .int (nI 0))] (pc' := 491) (L' := [some (.ref sb), some (.ref (A 0)), some (.ref (B 0)), some (.ref c), some (.int (nI (6 * k))), some (.int k1), some (.int y), none, none]) (st' := [.int (nI 0), .ref c]) (by decide +kernel) rfl ?_
      refine V.laldN (j := 0) hG hF (by decide +kernel) ho2 (by omega) (by decide) ?_
      refine V.run hF [(.iload 6, 2, .null), (.i2l, 1, .null), (.lcmp, 1, .null)] (pc' := 496) (L' := [some (.ref sb), some (.ref (A 0)), some (.ref (B 0)), some (.ref c), some (.int (nI (6 * k))), some (.int k1), some (.int y), none, none]) (st' := [.int (lg_cmp (o1 0) (Int32.toInt64 y))]) (by decide +kernel) rfl ?_
      rw [(lg_cmp_eq _ _).mpr (jo c2)]
      refine V.if_eq hF (off := 5) (tgt := 501) (by decide +kernel) (by decide) (fun c3 => ?_) (fun c3 => ?_)
      · skip
        refine V.run hF [(.goto 1414, 3, .null), (.iinc 4 6, 3, .int 6), (.goto (-1895), 3, .null)] (pc' := 23) (L' := [some (.ref sb), some (.ref (A 0)), some (.ref (B 0)), some (.ref c), some (.int ((nI (6 * k)) + 6)), some (.int k1), some (.int y), none, none]) (st' := []) (by decide +kernel) rfl ?_
        rw [n6 k]
        exact ih _ hL _ _ _ _
      · skip
        exact absurd rfl c3
  · skip
    exact absurd ek c1
set_option maxHeartbeats 8000000 in
theorem lc_smooth (hG : GOk G) (hN : GNc G) (hF : Ok G F RL cL_law 9 (some .boolean)) (hRm : fR F = { frames := 12, cells := 693274, slots := 7016281, locals := 448 }) (hX : SX G sb n xs) (hn : n ≤ 3072) (hi : 6 * k + 6 ≤ n) (hI : LI a b c k h) (ih : ∀ h', LI a b c (k + 1) h' → ∀ z5 z6 z7 z8, V G F Q kc ks 23 [some (.ref sb), some (.ref a), some (.ref b), some (.ref c), some (.int (nI (6 * (k + 1)))), z5, z6, z7, z8] [] h') : V G F Q (kc + 200) (ks + 1200) 504 [some (.ref sb), some (.ref a), some (.ref b), some (.ref c), some (.int (nI (6 * k))), none, none, none, none] [] h := by
  obtain ⟨A, σ, P, r, B, x, u, md, hs, o, rfl, rfl, hC, hM, hR, hA, hy, ho, dAB, dAc, dBc⟩ := hI
  have k512 : k < 512 := by omega
  have hS : 999 * (k : Int) ≤ 1073741824 := by omega
  have hA1 : Am σ (999 * ((k + 1 : Nat) : Int)) := hA.up (by omega)
  have hy1 : gy σ ≤ 40 * (k + 1) := by omega
  refine V.run hF [(.aload_n 1, 1, .null), (.aload_n 0, 1, .null), (.iload 4, 2, .null), (.iconst 1, 1, .int (nI 1)), (.iadd, 1, .null)] (pc' := 510) (L' := [some (.ref sb), some (.ref (A 0)), some (.ref (B 0)), some (.ref c), some (.int (nI (6 * k))), none, none, none, none]) (st' := [.int (nI (6 * k) + nI 1), .ref sb, .ref (A 0)]) (by decide +kernel) rfl ?_
  rw [nI_add (6 * k) 1]
  refine V.sld (j := 6 * k + 1) hF hX (by decide +kernel) (by omega) (by omega) ?_
  refine V.run hF [(.aload_n 3, 1, .null)] (pc' := 512) (L' := [some (.ref sb), some (.ref (A 0)), some (.ref (B 0)), some (.ref c), some (.int (nI (6 * k))), none, none, none, none]) (st' := [.ref c, .int (xs (6 * k + 1)), .ref (A 0)]) (by decide +kernel) rfl ?_
  refine V.less (kc' := kc + 2) (ks' := ks + 12) (by omega) (by omega) ?_
  refine V.callSW (As := [.ref (A 0), .int (xs (6 * k + 1)), .ref c]) (st := []) hG hF k_RL_119 (by decide +kernel) (n_smooth hG hN hC ho dAc (xs (6 * k + 1))) rfl ⟨by rw [hRm]; decide, by rw [hRm]; decide⟩ (Nat.le_of_ble_eq_true rfl) rfl (fun v1 h1 hp => ?_) (fun E h9 hx => hx.elim)
  obtain ⟨k1, σ', A1, P1, r1, o1, rfl, s1, d1, hC1, ho1, e10, e11, e12⟩ := hp
  have hM1 := LI_B hM dAB dBc e12
  show V G F _ _ _ 515 [some (.ref sb), some (.ref (A 0)), some (.ref (B 0)), some (.ref c), some (.int (nI (6 * k))), none, none, none, none] [.int k1] h1
  refine V.run hF [(.istore 5, 2, .null), (.aload_n 2, 1, .null), (.aload_n 0, 1, .null), (.iload 4, 2, .null), (.iconst 1, 1, .int (nI 1)), (.iadd, 1, .null)] (pc' := 523) (L' := [some (.ref sb), some (.ref (A 0)), some (.ref (B 0)), some (.ref c), some (.int (nI (6 * k))), some (.int k1), none, none, none]) (st' := [.int (nI (6 * k) + nI 1), .ref sb, .ref (B 0)]) (by decide +kernel) rfl ?_
  rw [nI_add (6 * k) 1]
  refine V.sld (j := 6 * k + 1) hF hX (by decide +kernel) (by omega) (by omega) ?_
  refine V.callV (As := [.int (xs (6 * k + 1))]) (st := []) hG hF k_RL_121 (by decide +kernel) (m_smooth hG hM1 hR (PEA_of hR hA hS) (PLQ_of hR hA hS) P (xs (6 * k + 1))) hM1.2.1 rfl rfl ⟨by rw [hRm]; decide, by rw [hRm]; decide⟩ (Nat.le_of_ble_eq_true rfl) rfl (fun v2 h2 hp2 => ?_) (fun E h9 hx => hx.elim)
  obtain ⟨k2, y, σ2, u2, md2, hs2, rfl, s2, d2, hR2, hM2, hk2⟩ := hp2
  have ek : k2 = k1 := st2_u s2 s1
  obtain ⟨rfl, jo, jA, jy⟩ := joinR (R := RI k) ek d1 d2 (fun z => by
    rw [z] at s1
    obtain ⟨⟨t, ht, e⟩, -⟩ := st2_0 s1
    rw [e, nI_clamp (by have := hC.2.1; omega)]
    exact ⟨(Am.sm hR hA hS ht).up (by omega), hy1⟩) ⟨hA1, hy1⟩
  have hL := LI_next hM ho dAB dAc dBc hC1 ho1 e10 e11 hR2 hM2 hk2 jA jy
  have ho2 : h2 c = some (out1 o1) := hk2 c _ ho1 (fun j hj q => dBc j hj q.symm)
  show V G F _ _ _ 527 [some (.ref sb), some (.ref (A 0)), some (.ref (B 0)), some (.ref c), some (.int (nI (6 * k))), some (.int k1), none, none, none] [.int y] h2
  refine V.run hF [(.istore 6, 2, .null), (.aload_n 2, 1, .null)] (pc' := 530) (L' := [some (.ref sb), some (.ref (A 0)), some (.ref (B 0)), some (.ref c), some (.int (nI (6 * k))), some (.int k1), some (.int y), none, none]) (st' := [.ref (B 0)]) (by decide +kernel) rfl ?_
  refine V.callV (As := []) (st := []) hG hF k_RL_103 (by decide +kernel) (c_X4_thrown hG hM2) hM2.2.1 rfl rfl ⟨by rw [hRm]; decide, by rw [hRm]; decide⟩ (Nat.le_of_ble_eq_true rfl) rfl (fun v h_3 gp3 => ?_) (fun E h9 hx => hx.elim)
  obtain ⟨rfl, he_gp3⟩ := gp3
  rw [he_gp3]
  show V G F _ _ _ 533 [some (.ref sb), some (.ref (A 0)), some (.ref (B 0)), some (.ref c), some (.int (nI (6 * k))), some (.int k1), some (.int y), none, none] [.int k2] h2
  refine V.run hF [(.iload 5, 2, .null)] (pc' := 535) (L' := [some (.ref sb), some (.ref (A 0)), some (.ref (B 0)), some (.ref c), some (.int (nI (6 * k))), some (.int k1), some (.int y), none, none]) (st' := [.int k1, .int k2]) (by decide +kernel) rfl ?_
  refine V.icmp_eq hF (off := 5) (tgt := 540) (by decide +kernel) (by decide) (fun c1 => ?_) (fun c1 => ?_)
  · skip
    refine V.run hF [(.iload 5, 2, .null)] (pc' := 542) (L' := [some (.ref sb), some (.ref (A 0)), some (.ref (B 0)), some (.ref c), some (.int (nI (6 * k))), some (.int k1), some (.int y), none, none]) (st' := [.int k1]) (by decide +kernel) rfl ?_
    refine V.if_ne hF (off := 15) (tgt := 557) (by decide +kernel) (by decide) (fun c2 => ?_) (fun c2 => ?_)
    · skip
      refine V.run hF [(.goto 1358, 3, .null), (.iinc 4 6, 3, .int 6), (.goto (-1895), 3, .null)] (pc' := 23) (L' := [some (.ref sb), some (.ref (A 0)), some (.ref (B 0)), some (.ref c), some (.int ((nI (6 * k)) + 6)), some (.int k1), some (.int y), none, none]) (st' := []) (by decide +kernel) rfl ?_
      rw [n6 k]
      exact ih _ hL _ _ _ _
    · skip
      refine V.run hF [(.aload_n 3, 1, .null), (.iconst 0, 1, .int (nI 0))] (pc' := 547) (L' := [some (.ref sb), some (.ref (A 0)), some (.ref (B 0)), some (.ref c), some (.int (nI (6 * k))), some (.int k1), some (.int y), none, none]) (st' := [.int (nI 0), .ref c]) (by decide +kernel) rfl ?_
      refine V.laldN (j := 0) hG hF (by decide +kernel) ho2 (by omega) (by decide) ?_
      refine V.run hF [(.iload 6, 2, .null), (.i2l, 1, .null), (.lcmp, 1, .null)] (pc' := 552) (L' := [some (.ref sb), some (.ref (A 0)), some (.ref (B 0)), some (.ref c), some (.int (nI (6 * k))), some (.int k1), some (.int y), none, none]) (st' := [.int (lg_cmp (o1 0) (Int32.toInt64 y))]) (by decide +kernel) rfl ?_
      rw [(lg_cmp_eq _ _).mpr (jo c2)]
      refine V.if_eq hF (off := 5) (tgt := 557) (by decide +kernel) (by decide) (fun c3 => ?_) (fun c3 => ?_)
      · skip
        refine V.run hF [(.goto 1358, 3, .null), (.iinc 4 6, 3, .int 6), (.goto (-1895), 3, .null)] (pc' := 23) (L' := [some (.ref sb), some (.ref (A 0)), some (.ref (B 0)), some (.ref c), some (.int ((nI (6 * k)) + 6)), some (.int k1), some (.int y), none, none]) (st' := []) (by decide +kernel) rfl ?_
        rw [n6 k]
        exact ih _ hL _ _ _ _
      · skip
        exact absurd rfl c3
  · skip
    exact absurd ek c1
set_option maxHeartbeats 8000000 in
theorem lc_turn (hG : GOk G) (hN : GNc G) (hF : Ok G F RL cL_law 9 (some .boolean)) (hRm : fR F = { frames := 12, cells := 693274, slots := 7016281, locals := 448 }) (hX : SX G sb n xs) (hn : n ≤ 3072) (hi : 6 * k + 6 ≤ n) (hI : LI a b c k h) (ih : ∀ h', LI a b c (k + 1) h' → ∀ z5 z6 z7 z8, V G F Q kc ks 23 [some (.ref sb), some (.ref a), some (.ref b), some (.ref c), some (.int (nI (6 * (k + 1)))), z5, z6, z7, z8] [] h') : V G F Q (kc + 200) (ks + 1200) 560 [some (.ref sb), some (.ref a), some (.ref b), some (.ref c), some (.int (nI (6 * k))), none, none, none, none] [] h := by
  obtain ⟨A, σ, P, r, B, x, u, md, hs, o, rfl, rfl, hC, hM, hR, hA, hy, ho, dAB, dAc, dBc⟩ := hI
  have k512 : k < 512 := by omega
  have hS : 999 * (k : Int) ≤ 1073741824 := by omega
  have hA1 : Am σ (999 * ((k + 1 : Nat) : Int)) := hA.up (by omega)
  have hy1 : gy σ ≤ 40 * (k + 1) := by omega
  refine V.run hF [(.aload_n 1, 1, .null), (.aload_n 0, 1, .null), (.iload 4, 2, .null), (.iconst 1, 1, .int (nI 1)), (.iadd, 1, .null)] (pc' := 566) (L' := [some (.ref sb), some (.ref (A 0)), some (.ref (B 0)), some (.ref c), some (.int (nI (6 * k))), none, none, none, none]) (st' := [.int (nI (6 * k) + nI 1), .ref sb, .ref (A 0)]) (by decide +kernel) rfl ?_
  rw [nI_add (6 * k) 1]
  refine V.sld (j := 6 * k + 1) hF hX (by decide +kernel) (by omega) (by omega) ?_
  refine V.run hF [(.aload_n 3, 1, .null)] (pc' := 568) (L' := [some (.ref sb), some (.ref (A 0)), some (.ref (B 0)), some (.ref c), some (.int (nI (6 * k))), none, none, none, none]) (st' := [.ref c, .int (xs (6 * k + 1)), .ref (A 0)]) (by decide +kernel) rfl ?_
  refine V.less (kc' := kc + 1) (ks' := ks + 6) (by omega) (by omega) ?_
  refine V.callSW (As := [.ref (A 0), .int (xs (6 * k + 1)), .ref c]) (st := []) hG hF k_RL_122 (by decide +kernel) (n_turn hG hN hC ho dAc (xs (6 * k + 1))) rfl ⟨by rw [hRm]; decide, by rw [hRm]; decide⟩ (Nat.le_of_ble_eq_true rfl) rfl (fun v1 h1 hp => ?_) (fun E h9 hx => hx.elim)
  obtain ⟨k1, σ', A1, P1, r1, o1, rfl, s1, d1, hC1, ho1, e10, e11, e12⟩ := hp
  have hM1 := LI_B hM dAB dBc e12
  show V G F _ _ _ 571 [some (.ref sb), some (.ref (A 0)), some (.ref (B 0)), some (.ref c), some (.int (nI (6 * k))), none, none, none, none] [.int k1] h1
  refine V.run hF [(.istore 5, 2, .null), (.aload_n 2, 1, .null), (.aload_n 0, 1, .null), (.iload 4, 2, .null), (.iconst 1, 1, .int (nI 1)), (.iadd, 1, .null)] (pc' := 579) (L' := [some (.ref sb), some (.ref (A 0)), some (.ref (B 0)), some (.ref c), some (.int (nI (6 * k))), some (.int k1), none, none, none]) (st' := [.int (nI (6 * k) + nI 1), .ref sb, .ref (B 0)]) (by decide +kernel) rfl ?_
  rw [nI_add (6 * k) 1]
  refine V.sld (j := 6 * k + 1) hF hX (by decide +kernel) (by omega) (by omega) ?_
  refine V.callV (As := [.int (xs (6 * k + 1))]) (st := []) hG hF k_RL_124 (by decide +kernel) (m_turn hG hM1 hR (xs (6 * k + 1))) hM1.2.1 rfl rfl ⟨by rw [hRm]; decide, by rw [hRm]; decide⟩ (Nat.le_of_ble_eq_true rfl) rfl (fun v2 h2 hp2 => ?_) (fun E h9 hx => hx.elim)
  obtain ⟨k2, y, σ2, u2, md2, hs2, rfl, s2, d2, hR2, hM2, hk2⟩ := hp2
  have ek : k2 = k1 := st1_u s2 s1
  obtain ⟨rfl, jo, jA, jy⟩ := joinR (R := RI k) ek d1 d2 (fun z => by
    rw [z] at s1
    exact ⟨hA1.th, hy1⟩) ⟨hA1, hy1⟩
  have hL := LI_next hM ho dAB dAc dBc hC1 ho1 e10 e11 hR2 hM2 hk2 jA jy
  have ho2 : h2 c = some (out1 o1) := hk2 c _ ho1 (fun j hj q => dBc j hj q.symm)
  show V G F _ _ _ 583 [some (.ref sb), some (.ref (A 0)), some (.ref (B 0)), some (.ref c), some (.int (nI (6 * k))), some (.int k1), none, none, none] [.int y] h2
  refine V.run hF [(.istore 6, 2, .null), (.aload_n 2, 1, .null)] (pc' := 586) (L' := [some (.ref sb), some (.ref (A 0)), some (.ref (B 0)), some (.ref c), some (.int (nI (6 * k))), some (.int k1), some (.int y), none, none]) (st' := [.ref (B 0)]) (by decide +kernel) rfl ?_
  refine V.callV (As := []) (st := []) hG hF k_RL_103 (by decide +kernel) (c_X4_thrown hG hM2) hM2.2.1 rfl rfl ⟨by rw [hRm]; decide, by rw [hRm]; decide⟩ (Nat.le_of_ble_eq_true rfl) rfl (fun v h_3 gp3 => ?_) (fun E h9 hx => hx.elim)
  obtain ⟨rfl, he_gp3⟩ := gp3
  rw [he_gp3]
  show V G F _ _ _ 589 [some (.ref sb), some (.ref (A 0)), some (.ref (B 0)), some (.ref c), some (.int (nI (6 * k))), some (.int k1), some (.int y), none, none] [.int k2] h2
  refine V.run hF [(.iload 5, 2, .null)] (pc' := 591) (L' := [some (.ref sb), some (.ref (A 0)), some (.ref (B 0)), some (.ref c), some (.int (nI (6 * k))), some (.int k1), some (.int y), none, none]) (st' := [.int k1, .int k2]) (by decide +kernel) rfl ?_
  refine V.icmp_eq hF (off := 5) (tgt := 596) (by decide +kernel) (by decide) (fun c1 => ?_) (fun c1 => ?_)
  · skip
    refine V.run hF [(.iload 5, 2, .null)] (pc' := 598) (L' := [some (.ref sb), some (.ref (A 0)), some (.ref (B 0)), some (.ref c), some (.int (nI (6 * k))), some (.int k1), some (.int y), none, none]) (st' := [.int k1]) (by decide +kernel) rfl ?_
    refine V.if_ne hF (off := 22) (tgt := 620) (by decide +kernel) (by decide) (fun c2 => ?_) (fun c2 => ?_)
    · skip
      refine V.run hF [(.goto 1295, 3, .null), (.iinc 4 6, 3, .int 6), (.goto (-1895), 3, .null)] (pc' := 23) (L' := [some (.ref sb), some (.ref (A 0)), some (.ref (B 0)), some (.ref c), some (.int ((nI (6 * k)) + 6)), some (.int k1), some (.int y), none, none]) (st' := []) (by decide +kernel) rfl ?_
      rw [n6 k]
      exact ih _ hL _ _ _ _
    · skip
      refine V.run hF [(.aload_n 3, 1, .null), (.iconst 0, 1, .int (nI 0))] (pc' := 603) (L' := [some (.ref sb), some (.ref (A 0)), some (.ref (B 0)), some (.ref c), some (.int (nI (6 * k))), some (.int k1), some (.int y), none, none]) (st' := [.int (nI 0), .ref c]) (by decide +kernel) rfl ?_
      refine V.laldN (j := 0) hG hF (by decide +kernel) ho2 (by omega) (by decide) ?_
      refine V.run hF [(.iload 6, 2, .null)] (pc' := 606) (L' := [some (.ref sb), some (.ref (A 0)), some (.ref (B 0)), some (.ref c), some (.int (nI (6 * k))), some (.int k1), some (.int y), none, none]) (st' := [.int y, .long (o1 0)]) (by decide +kernel) rfl ?_
      refine V.if_eq hF (off := 7) (tgt := 613) (by decide +kernel) (by decide) (fun c4 => ?_) (fun c4 => ?_)
      · skip
        refine V.run hF [(.lconst 0, 1, .long 0), (.lcmp, 1, .null)] (pc' := 615) (L' := [some (.ref sb), some (.ref (A 0)), some (.ref (B 0)), some (.ref c), some (.int (nI (6 * k))), some (.int k1), some (.int y), none, none]) (st' := [.int (lg_cmp (o1 0) 0)]) (by decide +kernel) rfl ?_
        rw [(lg_cmp_eq _ _).mpr ((jo c2).trans (if_pos c4))]
        refine V.if_eq hF (off := 5) (tgt := 620) (by decide +kernel) (by decide) (fun c3 => ?_) (fun c3 => ?_)
        · skip
          refine V.run hF [(.goto 1295, 3, .null), (.iinc 4 6, 3, .int 6), (.goto (-1895), 3, .null)] (pc' := 23) (L' := [some (.ref sb), some (.ref (A 0)), some (.ref (B 0)), some (.ref c), some (.int ((nI (6 * k)) + 6)), some (.int k1), some (.int y), none, none]) (st' := []) (by decide +kernel) rfl ?_
          rw [n6 k]
          exact ih _ hL _ _ _ _
        · skip
          exact absurd rfl c3
      · skip
        refine V.run hF [(.lconst 1, 1, .long 1), (.goto 4, 3, .null), (.lcmp, 1, .null)] (pc' := 615) (L' := [some (.ref sb), some (.ref (A 0)), some (.ref (B 0)), some (.ref c), some (.int (nI (6 * k))), some (.int k1), some (.int y), none, none]) (st' := [.int (lg_cmp (o1 0) 1)]) (by decide +kernel) rfl ?_
        rw [(lg_cmp_eq _ _).mpr ((jo c2).trans (if_neg c4))]
        refine V.if_eq hF (off := 5) (tgt := 620) (by decide +kernel) (by decide) (fun c3 => ?_) (fun c3 => ?_)
        · skip
          refine V.run hF [(.goto 1295, 3, .null), (.iinc 4 6, 3, .int 6), (.goto (-1895), 3, .null)] (pc' := 23) (L' := [some (.ref sb), some (.ref (A 0)), some (.ref (B 0)), some (.ref c), some (.int ((nI (6 * k)) + 6)), some (.int k1), some (.int y), none, none]) (st' := []) (by decide +kernel) rfl ?_
          rw [n6 k]
          exact ih _ hL _ _ _ _
        · skip
          exact absurd rfl c3
  · skip
    exact absurd ek c1
set_option maxHeartbeats 8000000 in
theorem lc_carry (hG : GOk G) (hN : GNc G) (hF : Ok G F RL cL_law 9 (some .boolean)) (hRm : fR F = { frames := 12, cells := 693274, slots := 7016281, locals := 448 }) (hX : SX G sb n xs) (hn : n ≤ 3072) (hi : 6 * k + 6 ≤ n) (hI : LI a b c k h) (ih : ∀ h', LI a b c (k + 1) h' → ∀ z5 z6 z7 z8, V G F Q kc ks 23 [some (.ref sb), some (.ref a), some (.ref b), some (.ref c), some (.int (nI (6 * (k + 1)))), z5, z6, z7, z8] [] h') : V G F Q (kc + 200) (ks + 1200) 623 [some (.ref sb), some (.ref a), some (.ref b), some (.ref c), some (.int (nI (6 * k))), none, none, none, none] [] h := by
  obtain ⟨A, σ, P, r, B, x, u, md, hs, o, rfl, rfl, hC, hM, hR, hA, hy, ho, dAB, dAc, dBc⟩ := hI
  have k512 : k < 512 := by omega
  have hS : 999 * (k : Int) ≤ 1073741824 := by omega
  have hA1 : Am σ (999 * ((k + 1 : Nat) : Int)) := hA.up (by omega)
  have hy1 : gy σ ≤ 40 * (k + 1) := by omega
  refine V.run hF [(.aload_n 1, 1, .null), (.aload_n 0, 1, .null), (.iload 4, 2, .null), (.iconst 1, 1, .int (nI 1)), (.iadd, 1, .null)] (pc' := 629) (L' := [some (.ref sb), some (.ref (A 0)), some (.ref (B 0)), some (.ref c), some (.int (nI (6 * k))), none, none, none, none]) (st' := [.int (nI (6 * k) + nI 1), .ref sb, .ref (A 0)]) (by decide +kernel) rfl ?_
  rw [nI_add (6 * k) 1]
  refine V.sld (j := 6 * k + 1) hF hX (by decide +kernel) (by omega) (by omega) ?_
  refine V.run hF [(.aload_n 3, 1, .null)] (pc' := 631) (L' := [some (.ref sb), some (.ref (A 0)), some (.ref (B 0)), some (.ref c), some (.int (nI (6 * k))), none, none, none, none]) (st' := [.ref c, .int (xs (6 * k + 1)), .ref (A 0)]) (by decide +kernel) rfl ?_
  refine V.less (kc' := kc + 2) (ks' := ks + 12) (by omega) (by omega) ?_
  refine V.callSW (As := [.ref (A 0), .int (xs (6 * k + 1)), .ref c]) (st := []) hG hF k_RL_125 (by decide +kernel) (n_carry hG hN hC ho dAc (xs (6 * k + 1))) rfl ⟨by rw [hRm]; decide, by rw [hRm]; decide⟩ (Nat.le_of_ble_eq_true rfl) rfl (fun v1 h1 hp => ?_) (fun E h9 hx => hx.elim)
  obtain ⟨k1, σ', A1, P1, r1, o1, rfl, s1, d1, hC1, ho1, e10, e11, e12⟩ := hp
  have hM1 := LI_B hM dAB dBc e12
  show V G F _ _ _ 634 [some (.ref sb), some (.ref (A 0)), some (.ref (B 0)), some (.ref c), some (.int (nI (6 * k))), none, none, none, none] [.int k1] h1
  refine V.run hF [(.istore 5, 2, .null), (.aload_n 2, 1, .null), (.aload_n 0, 1, .null), (.iload 4, 2, .null), (.iconst 1, 1, .int (nI 1)), (.iadd, 1, .null)] (pc' := 642) (L' := [some (.ref sb), some (.ref (A 0)), some (.ref (B 0)), some (.ref c), some (.int (nI (6 * k))), some (.int k1), none, none, none]) (st' := [.int (nI (6 * k) + nI 1), .ref sb, .ref (B 0)]) (by decide +kernel) rfl ?_
  rw [nI_add (6 * k) 1]
  refine V.sld (j := 6 * k + 1) hF hX (by decide +kernel) (by omega) (by omega) ?_
  refine V.callV (As := [.int (xs (6 * k + 1))]) (st := []) hG hF k_RL_127 (by decide +kernel) (m_carry hG hM1 hR (xs (6 * k + 1))) hM1.2.1 rfl rfl ⟨by rw [hRm]; decide, by rw [hRm]; decide⟩ (Nat.le_of_ble_eq_true rfl) rfl (fun v2 h2 hp2 => ?_) (fun E h9 hx => hx.elim)
  obtain ⟨k2, y, σ2, u2, md2, hs2, rfl, s2, d2, hR2, hM2, hk2⟩ := hp2
  have ek : k2 = k1 := st1_u s2 s1
  obtain ⟨rfl, jo, jA, jy⟩ := joinR (R := RI k) ek d1 d2 (fun z => by
    rw [z] at s1
    obtain ⟨t, ht, e⟩ := st1_0 s1
    rw [e, nI_clamp (by have := hC.2.1; omega)]
    exact ⟨hA1.cy ht, hy1⟩) ⟨hA1, hy1⟩
  have hL := LI_next hM ho dAB dAc dBc hC1 ho1 e10 e11 hR2 hM2 hk2 jA jy
  have ho2 : h2 c = some (out1 o1) := hk2 c _ ho1 (fun j hj q => dBc j hj q.symm)
  show V G F _ _ _ 646 [some (.ref sb), some (.ref (A 0)), some (.ref (B 0)), some (.ref c), some (.int (nI (6 * k))), some (.int k1), none, none, none] [.int y] h2
  refine V.run hF [(.istore 6, 2, .null), (.aload_n 2, 1, .null)] (pc' := 649) (L' := [some (.ref sb), some (.ref (A 0)), some (.ref (B 0)), some (.ref c), some (.int (nI (6 * k))), some (.int k1), some (.int y), none, none]) (st' := [.ref (B 0)]) (by decide +kernel) rfl ?_
  refine V.callV (As := []) (st := []) hG hF k_RL_103 (by decide +kernel) (c_X4_thrown hG hM2) hM2.2.1 rfl rfl ⟨by rw [hRm]; decide, by rw [hRm]; decide⟩ (Nat.le_of_ble_eq_true rfl) rfl (fun v h_3 gp3 => ?_) (fun E h9 hx => hx.elim)
  obtain ⟨rfl, he_gp3⟩ := gp3
  rw [he_gp3]
  show V G F _ _ _ 652 [some (.ref sb), some (.ref (A 0)), some (.ref (B 0)), some (.ref c), some (.int (nI (6 * k))), some (.int k1), some (.int y), none, none] [.int k2] h2
  refine V.run hF [(.iload 5, 2, .null)] (pc' := 654) (L' := [some (.ref sb), some (.ref (A 0)), some (.ref (B 0)), some (.ref c), some (.int (nI (6 * k))), some (.int k1), some (.int y), none, none]) (st' := [.int k1, .int k2]) (by decide +kernel) rfl ?_
  refine V.icmp_eq hF (off := 5) (tgt := 659) (by decide +kernel) (by decide) (fun c1 => ?_) (fun c1 => ?_)
  · skip
    refine V.run hF [(.iload 5, 2, .null)] (pc' := 661) (L' := [some (.ref sb), some (.ref (A 0)), some (.ref (B 0)), some (.ref c), some (.int (nI (6 * k))), some (.int k1), some (.int y), none, none]) (st' := [.int k1]) (by decide +kernel) rfl ?_
    refine V.if_ne hF (off := 22) (tgt := 683) (by decide +kernel) (by decide) (fun c2 => ?_) (fun c2 => ?_)
    · skip
      refine V.run hF [(.goto 1232, 3, .null), (.iinc 4 6, 3, .int 6), (.goto (-1895), 3, .null)] (pc' := 23) (L' := [some (.ref sb), some (.ref (A 0)), some (.ref (B 0)), some (.ref c), some (.int ((nI (6 * k)) + 6)), some (.int k1), some (.int y), none, none]) (st' := []) (by decide +kernel) rfl ?_
      rw [n6 k]
      exact ih _ hL _ _ _ _
    · skip
      refine V.run hF [(.aload_n 3, 1, .null), (.iconst 0, 1, .int (nI 0))] (pc' := 666) (L' := [some (.ref sb), some (.ref (A 0)), some (.ref (B 0)), some (.ref c), some (.int (nI (6 * k))), some (.int k1), some (.int y), none, none]) (st' := [.int (nI 0), .ref c]) (by decide +kernel) rfl ?_
      refine V.laldN (j := 0) hG hF (by decide +kernel) ho2 (by omega) (by decide) ?_
      refine V.run hF [(.iload 6, 2, .null)] (pc' := 669) (L' := [some (.ref sb), some (.ref (A 0)), some (.ref (B 0)), some (.ref c), some (.int (nI (6 * k))), some (.int k1), some (.int y), none, none]) (st' := [.int y, .long (o1 0)]) (by decide +kernel) rfl ?_
      refine V.if_eq hF (off := 7) (tgt := 676) (by decide +kernel) (by decide) (fun c4 => ?_) (fun c4 => ?_)
      · skip
        refine V.run hF [(.lconst 0, 1, .long 0), (.lcmp, 1, .null)] (pc' := 678) (L' := [some (.ref sb), some (.ref (A 0)), some (.ref (B 0)), some (.ref c), some (.int (nI (6 * k))), some (.int k1), some (.int y), none, none]) (st' := [.int (lg_cmp (o1 0) 0)]) (by decide +kernel) rfl ?_
        rw [(lg_cmp_eq _ _).mpr ((jo c2).trans (if_pos c4))]
        refine V.if_eq hF (off := 5) (tgt := 683) (by decide +kernel) (by decide) (fun c3 => ?_) (fun c3 => ?_)
        · skip
          refine V.run hF [(.goto 1232, 3, .null), (.iinc 4 6, 3, .int 6), (.goto (-1895), 3, .null)] (pc' := 23) (L' := [some (.ref sb), some (.ref (A 0)), some (.ref (B 0)), some (.ref c), some (.int ((nI (6 * k)) + 6)), some (.int k1), some (.int y), none, none]) (st' := []) (by decide +kernel) rfl ?_
          rw [n6 k]
          exact ih _ hL _ _ _ _
        · skip
          exact absurd rfl c3
      · skip
        refine V.run hF [(.lconst 1, 1, .long 1), (.goto 4, 3, .null), (.lcmp, 1, .null)] (pc' := 678) (L' := [some (.ref sb), some (.ref (A 0)), some (.ref (B 0)), some (.ref c), some (.int (nI (6 * k))), some (.int k1), some (.int y), none, none]) (st' := [.int (lg_cmp (o1 0) 1)]) (by decide +kernel) rfl ?_
        rw [(lg_cmp_eq _ _).mpr ((jo c2).trans (if_neg c4))]
        refine V.if_eq hF (off := 5) (tgt := 683) (by decide +kernel) (by decide) (fun c3 => ?_) (fun c3 => ?_)
        · skip
          refine V.run hF [(.goto 1232, 3, .null), (.iinc 4 6, 3, .int 6), (.goto (-1895), 3, .null)] (pc' := 23) (L' := [some (.ref sb), some (.ref (A 0)), some (.ref (B 0)), some (.ref c), some (.int ((nI (6 * k)) + 6)), some (.int k1), some (.int y), none, none]) (st' := []) (by decide +kernel) rfl ?_
          rw [n6 k]
          exact ih _ hL _ _ _ _
        · skip
          exact absurd rfl c3
  · skip
    exact absurd ek c1
set_option maxHeartbeats 8000000 in
theorem lc_setHeat (hG : GOk G) (hN : GNc G) (hF : Ok G F RL cL_law 9 (some .boolean)) (hRm : fR F = { frames := 12, cells := 693274, slots := 7016281, locals := 448 }) (hX : SX G sb n xs) (hn : n ≤ 3072) (hi : 6 * k + 6 ≤ n) (hI : LI a b c k h) (ih : ∀ h', LI a b c (k + 1) h' → ∀ z5 z6 z7 z8, V G F Q kc ks 23 [some (.ref sb), some (.ref a), some (.ref b), some (.ref c), some (.int (nI (6 * (k + 1)))), z5, z6, z7, z8] [] h') : V G F Q (kc + 200) (ks + 1200) 686 [some (.ref sb), some (.ref a), some (.ref b), some (.ref c), some (.int (nI (6 * k))), none, none, none, none] [] h := by
  obtain ⟨A, σ, P, r, B, x, u, md, hs, o, rfl, rfl, hC, hM, hR, hA, hy, ho, dAB, dAc, dBc⟩ := hI
  have k512 : k < 512 := by omega
  have hS : 999 * (k : Int) ≤ 1073741824 := by omega
  have hA1 : Am σ (999 * ((k + 1 : Nat) : Int)) := hA.up (by omega)
  have hy1 : gy σ ≤ 40 * (k + 1) := by omega
  refine V.run hF [(.aload_n 1, 1, .null), (.aload_n 0, 1, .null), (.iload 4, 2, .null), (.iconst 1, 1, .int (nI 1)), (.iadd, 1, .null)] (pc' := 692) (L' := [some (.ref sb), some (.ref (A 0)), some (.ref (B 0)), some (.ref c), some (.int (nI (6 * k))), none, none, none, none]) (st' := [.int (nI (6 * k) + nI 1), .ref sb, .ref (A 0)]) (by decide +kernel) rfl ?_
  rw [nI_add (6 * k) 1]
  refine V.sld (j := 6 * k + 1) hF hX (by decide +kernel) (by omega) (by omega) ?_
  refine V.run hF [(.aload_n 0, 1, .null), (.iload 4, 2, .null), (.iconst 2, 1, .int (nI 2)), (.iadd, 1, .null)] (pc' := 698) (L' := [some (.ref sb), some (.ref (A 0)), some (.ref (B 0)), some (.ref c), some (.int (nI (6 * k))), none, none, none, none]) (st' := [.int (nI (6 * k) + nI 2), .ref sb, .int (xs (6 * k + 1)), .ref (A 0)]) (by decide +kernel) rfl ?_
  rw [nI_add (6 * k) 2]
  refine V.sld (j := 6 * k + 2) hF hX (by decide +kernel) (by omega) (by omega) ?_
  refine V.run hF [(.aload_n 3, 1, .null)] (pc' := 700) (L' := [some (.ref sb), some (.ref (A 0)), some (.ref (B 0)), some (.ref c), some (.int (nI (6 * k))), none, none, none, none]) (st' := [.ref c, .int (xs (6 * k + 2)), .int (xs (6 * k + 1)), .ref (A 0)]) (by decide +kernel) rfl ?_
  refine V.less (kc' := kc + 1) (ks' := ks + 6) (by omega) (by omega) ?_
  refine V.callSW (As := [.ref (A 0), .int (xs (6 * k + 1)), .int (xs (6 * k + 2)), .ref c]) (st := []) hG hF k_RL_128 (by decide +kernel) (n_setHeat hG hN hC ho dAc (xs (6 * k + 1)) (xs (6 * k + 2))) rfl ⟨by rw [hRm]; decide, by rw [hRm]; decide⟩ (Nat.le_of_ble_eq_true rfl) rfl (fun v1 h1 hp => ?_) (fun E h9 hx => hx.elim)
  obtain ⟨k1, σ', A1, P1, r1, o1, rfl, s1, d1, hC1, ho1, e10, e11, e12⟩ := hp
  have hM1 := LI_B hM dAB dBc e12
  show V G F _ _ _ 703 [some (.ref sb), some (.ref (A 0)), some (.ref (B 0)), some (.ref c), some (.int (nI (6 * k))), none, none, none, none] [.int k1] h1
  refine V.run hF [(.istore 5, 2, .null), (.aload_n 2, 1, .null), (.aload_n 0, 1, .null), (.iload 4, 2, .null), (.iconst 1, 1, .int (nI 1)), (.iadd, 1, .null)] (pc' := 711) (L' := [some (.ref sb), some (.ref (A 0)), some (.ref (B 0)), some (.ref c), some (.int (nI (6 * k))), some (.int k1), none, none, none]) (st' := [.int (nI (6 * k) + nI 1), .ref sb, .ref (B 0)]) (by decide +kernel) rfl ?_
  rw [nI_add (6 * k) 1]
  refine V.sld (j := 6 * k + 1) hF hX (by decide +kernel) (by omega) (by omega) ?_
  refine V.run hF [(.aload_n 0, 1, .null), (.iload 4, 2, .null), (.iconst 2, 1, .int (nI 2)), (.iadd, 1, .null)] (pc' := 717) (L' := [some (.ref sb), some (.ref (A 0)), some (.ref (B 0)), some (.ref c), some (.int (nI (6 * k))), some (.int k1), none, none, none]) (st' := [.int (nI (6 * k) + nI 2), .ref sb, .int (xs (6 * k + 1)), .ref (B 0)]) (by decide +kernel) rfl ?_
  rw [nI_add (6 * k) 2]
  refine V.sld (j := 6 * k + 2) hF hX (by decide +kernel) (by omega) (by omega) ?_
  refine V.callV (As := [.int (xs (6 * k + 1)), .int (xs (6 * k + 2))]) (st := []) hG hF k_RL_130 (by decide +kernel) (m_setHeat hG hM1 hR (xs (6 * k + 1)) (xs (6 * k + 2))) hM1.2.1 rfl rfl ⟨by rw [hRm]; decide, by rw [hRm]; decide⟩ (Nat.le_of_ble_eq_true rfl) rfl (fun v2 h2 hp2 => ?_) (fun E h9 hx => hx.elim)
  obtain ⟨k2, y, σ2, u2, md2, hs2, rfl, s2, d2, hR2, hM2, hk2⟩ := hp2
  have ek : k2 = k1 := st2_u s2 s1
  obtain ⟨rfl, jo, jA, jy⟩ := joinR (R := RI k) ek d1 d2 (fun z => by
    rw [z] at s1
    exact ⟨hA1.he, hy1⟩) ⟨hA1, hy1⟩
  have hL := LI_next hM ho dAB dAc dBc hC1 ho1 e10 e11 hR2 hM2 hk2 jA jy
  have ho2 : h2 c = some (out1 o1) := hk2 c _ ho1 (fun j hj q => dBc j hj q.symm)
  show V G F _ _ _ 721 [some (.ref sb), some (.ref (A 0)), some (.ref (B 0)), some (.ref c), some (.int (nI (6 * k))), some (.int k1), none, none, none] [.int y] h2
  refine V.run hF [(.istore 6, 2, .null), (.aload_n 2, 1, .null)] (pc' := 724) (L' := [some (.ref sb), some (.ref (A 0)), some (.ref (B 0)), some (.ref c), some (.int (nI (6 * k))), some (.int k1), some (.int y), none, none]) (st' := [.ref (B 0)]) (by decide +kernel) rfl ?_
  refine V.callV (As := []) (st := []) hG hF k_RL_103 (by decide +kernel) (c_X4_thrown hG hM2) hM2.2.1 rfl rfl ⟨by rw [hRm]; decide, by rw [hRm]; decide⟩ (Nat.le_of_ble_eq_true rfl) rfl (fun v h_3 gp3 => ?_) (fun E h9 hx => hx.elim)
  obtain ⟨rfl, he_gp3⟩ := gp3
  rw [he_gp3]
  show V G F _ _ _ 727 [some (.ref sb), some (.ref (A 0)), some (.ref (B 0)), some (.ref c), some (.int (nI (6 * k))), some (.int k1), some (.int y), none, none] [.int k2] h2
  refine V.run hF [(.iload 5, 2, .null)] (pc' := 729) (L' := [some (.ref sb), some (.ref (A 0)), some (.ref (B 0)), some (.ref c), some (.int (nI (6 * k))), some (.int k1), some (.int y), none, none]) (st' := [.int k1, .int k2]) (by decide +kernel) rfl ?_
  refine V.icmp_eq hF (off := 5) (tgt := 734) (by decide +kernel) (by decide) (fun c1 => ?_) (fun c1 => ?_)
  · skip
    refine V.run hF [(.iload 5, 2, .null)] (pc' := 736) (L' := [some (.ref sb), some (.ref (A 0)), some (.ref (B 0)), some (.ref c), some (.int (nI (6 * k))), some (.int k1), some (.int y), none, none]) (st' := [.int k1]) (by decide +kernel) rfl ?_
    refine V.if_ne hF (off := 15) (tgt := 751) (by decide +kernel) (by decide) (fun c2 => ?_) (fun c2 => ?_)
    · skip
      refine V.run hF [(.goto 1164, 3, .null), (.iinc 4 6, 3, .int 6), (.goto (-1895), 3, .null)] (pc' := 23) (L' := [some (.ref sb), some (.ref (A 0)), some (.ref (B 0)), some (.ref c), some (.int ((nI (6 * k)) + 6)), some (.int k1), some (.int y), none, none]) (st' := []) (by decide +kernel) rfl ?_
      rw [n6 k]
      exact ih _ hL _ _ _ _
    · skip
      refine V.run hF [(.aload_n 3, 1, .null), (.iconst 0, 1, .int (nI 0))] (pc' := 741) (L' := [some (.ref sb), some (.ref (A 0)), some (.ref (B 0)), some (.ref c), some (.int (nI (6 * k))), some (.int k1), some (.int y), none, none]) (st' := [.int (nI 0), .ref c]) (by decide +kernel) rfl ?_
      refine V.laldN (j := 0) hG hF (by decide +kernel) ho2 (by omega) (by decide) ?_
      refine V.run hF [(.iload 6, 2, .null), (.i2l, 1, .null), (.lcmp, 1, .null)] (pc' := 746) (L' := [some (.ref sb), some (.ref (A 0)), some (.ref (B 0)), some (.ref c), some (.int (nI (6 * k))), some (.int k1), some (.int y), none, none]) (st' := [.int (lg_cmp (o1 0) (Int32.toInt64 y))]) (by decide +kernel) rfl ?_
      rw [(lg_cmp_eq _ _).mpr (jo c2)]
      refine V.if_eq hF (off := 5) (tgt := 751) (by decide +kernel) (by decide) (fun c3 => ?_) (fun c3 => ?_)
      · skip
        refine V.run hF [(.goto 1164, 3, .null), (.iinc 4 6, 3, .int 6), (.goto (-1895), 3, .null)] (pc' := 23) (L' := [some (.ref sb), some (.ref (A 0)), some (.ref (B 0)), some (.ref c), some (.int ((nI (6 * k)) + 6)), some (.int k1), some (.int y), none, none]) (st' := []) (by decide +kernel) rfl ?_
        rw [n6 k]
        exact ih _ hL _ _ _ _
      · skip
        exact absurd rfl c3
  · skip
    exact absurd ek c1
set_option maxHeartbeats 8000000 in
theorem lc_pass (hG : GOk G) (hN : GNc G) (hF : Ok G F RL cL_law 9 (some .boolean)) (hRm : fR F = { frames := 12, cells := 693274, slots := 7016281, locals := 448 }) (hX : SX G sb n xs) (hn : n ≤ 3072) (hi : 6 * k + 6 ≤ n) (hI : LI a b c k h) (ih : ∀ h', LI a b c (k + 1) h' → ∀ z5 z6 z7 z8, V G F Q kc ks 23 [some (.ref sb), some (.ref a), some (.ref b), some (.ref c), some (.int (nI (6 * (k + 1)))), z5, z6, z7, z8] [] h') : V G F Q (kc + 200) (ks + 1200) 754 [some (.ref sb), some (.ref a), some (.ref b), some (.ref c), some (.int (nI (6 * k))), none, none, none, none] [] h := by
  obtain ⟨A, σ, P, r, B, x, u, md, hs, o, rfl, rfl, hC, hM, hR, hA, hy, ho, dAB, dAc, dBc⟩ := hI
  have k512 : k < 512 := by omega
  have hS : 999 * (k : Int) ≤ 1073741824 := by omega
  have hA1 : Am σ (999 * ((k + 1 : Nat) : Int)) := hA.up (by omega)
  have hy1 : gy σ ≤ 40 * (k + 1) := by omega
  refine V.run hF [(.aload_n 1, 1, .null), (.aload_n 0, 1, .null), (.iload 4, 2, .null), (.iconst 1, 1, .int (nI 1)), (.iadd, 1, .null)] (pc' := 760) (L' := [some (.ref sb), some (.ref (A 0)), some (.ref (B 0)), some (.ref c), some (.int (nI (6 * k))), none, none, none, none]) (st' := [.int (nI (6 * k) + nI 1), .ref sb, .ref (A 0)]) (by decide +kernel) rfl ?_
  rw [nI_add (6 * k) 1]
  refine V.sld (j := 6 * k + 1) hF hX (by decide +kernel) (by omega) (by omega) ?_
  refine V.run hF [(.aload_n 3, 1, .null)] (pc' := 762) (L' := [some (.ref sb), some (.ref (A 0)), some (.ref (B 0)), some (.ref c), some (.int (nI (6 * k))), none, none, none, none]) (st' := [.ref c, .int (xs (6 * k + 1)), .ref (A 0)]) (by decide +kernel) rfl ?_
  refine V.less (kc' := kc + 1) (ks' := ks + 6) (by omega) (by omega) ?_
  refine V.callSW (As := [.ref (A 0), .int (xs (6 * k + 1)), .ref c]) (st := []) hG hF k_RL_131 (by decide +kernel) (n_pass hG hN hC ho dAc (by omega) (xs (6 * k + 1))) rfl ⟨by rw [hRm]; decide, by rw [hRm]; decide⟩ (Nat.le_of_ble_eq_true rfl) rfl (fun v1 h1 hp => ?_) (fun E h9 hx => hx.elim)
  obtain ⟨k1, σ', A1, P1, r1, o1, rfl, s1, d1, hC1, ho1, e10, e11, e12⟩ := hp
  have hM1 := LI_B hM dAB dBc e12
  show V G F _ _ _ 765 [some (.ref sb), some (.ref (A 0)), some (.ref (B 0)), some (.ref c), some (.int (nI (6 * k))), none, none, none, none] [.int k1] h1
  refine V.run hF [(.istore 5, 2, .null), (.aload_n 2, 1, .null), (.aload_n 0, 1, .null), (.iload 4, 2, .null), (.iconst 1, 1, .int (nI 1)), (.iadd, 1, .null)] (pc' := 773) (L' := [some (.ref sb), some (.ref (A 0)), some (.ref (B 0)), some (.ref c), some (.int (nI (6 * k))), some (.int k1), none, none, none]) (st' := [.int (nI (6 * k) + nI 1), .ref sb, .ref (B 0)]) (by decide +kernel) rfl ?_
  rw [nI_add (6 * k) 1]
  refine V.sld (j := 6 * k + 1) hF hX (by decide +kernel) (by omega) (by omega) ?_
  refine V.callV (As := [.int (xs (6 * k + 1))]) (st := []) hG hF k_RL_133 (by decide +kernel) (m_pass hG hM1 hR (by omega) (xs (6 * k + 1))) hM1.2.1 rfl rfl ⟨by rw [hRm]; decide, by rw [hRm]; decide⟩ (Nat.le_of_ble_eq_true rfl) rfl (fun v2 h2 hp2 => ?_) (fun E h9 hx => hx.elim)
  obtain ⟨k2, y, σ2, u2, md2, hs2, rfl, s2, d2, hR2, hM2, hk2⟩ := hp2
  have ek : k2 = k1 := st1_u s2 s1
  obtain ⟨rfl, jo, jA, jy⟩ := joinR (R := RI k) ek d1 d2 (fun z => by
    rw [z] at s1
    have q := st1_0 s1
    obtain ⟨j, hj, e⟩ := nI_of2 (M := 40) (n := 40) (by decide +kernel) (fun z => q.1 (Int32.lt_trans z (by decide))) q.2
    rw [e, nI_clamp (by omega)]
    refine ⟨(hA.ps (by omega)).up (by omega), ?_⟩
    show gy σ + j ≤ 40 * (k + 1)
    omega) ⟨hA1, hy1⟩
  have hL := LI_next hM ho dAB dAc dBc hC1 ho1 e10 e11 hR2 hM2 hk2 jA jy
  have ho2 : h2 c = some (out1 o1) := hk2 c _ ho1 (fun j hj q => dBc j hj q.symm)
  show V G F _ _ _ 777 [some (.ref sb), some (.ref (A 0)), some (.ref (B 0)), some (.ref c), some (.int (nI (6 * k))), some (.int k1), none, none, none] [.int y] h2
  refine V.run hF [(.istore 6, 2, .null), (.aload_n 2, 1, .null)] (pc' := 780) (L' := [some (.ref sb), some (.ref (A 0)), some (.ref (B 0)), some (.ref c), some (.int (nI (6 * k))), some (.int k1), some (.int y), none, none]) (st' := [.ref (B 0)]) (by decide +kernel) rfl ?_
  refine V.callV (As := []) (st := []) hG hF k_RL_103 (by decide +kernel) (c_X4_thrown hG hM2) hM2.2.1 rfl rfl ⟨by rw [hRm]; decide, by rw [hRm]; decide⟩ (Nat.le_of_ble_eq_true rfl) rfl (fun v h_3 gp3 => ?_) (fun E h9 hx => hx.elim)
  obtain ⟨rfl, he_gp3⟩ := gp3
  rw [he_gp3]
  show V G F _ _ _ 783 [some (.ref sb), some (.ref (A 0)), some (.ref (B 0)), some (.ref c), some (.int (nI (6 * k))), some (.int k1), some (.int y), none, none] [.int k2] h2
  refine V.run hF [(.iload 5, 2, .null)] (pc' := 785) (L' := [some (.ref sb), some (.ref (A 0)), some (.ref (B 0)), some (.ref c), some (.int (nI (6 * k))), some (.int k1), some (.int y), none, none]) (st' := [.int k1, .int k2]) (by decide +kernel) rfl ?_
  refine V.icmp_eq hF (off := 5) (tgt := 790) (by decide +kernel) (by decide) (fun c1 => ?_) (fun c1 => ?_)
  · skip
    refine V.run hF [(.iload 5, 2, .null)] (pc' := 792) (L' := [some (.ref sb), some (.ref (A 0)), some (.ref (B 0)), some (.ref c), some (.int (nI (6 * k))), some (.int k1), some (.int y), none, none]) (st' := [.int k1]) (by decide +kernel) rfl ?_
    refine V.if_ne hF (off := 15) (tgt := 807) (by decide +kernel) (by decide) (fun c2 => ?_) (fun c2 => ?_)
    · skip
      refine V.run hF [(.goto 1108, 3, .null), (.iinc 4 6, 3, .int 6), (.goto (-1895), 3, .null)] (pc' := 23) (L' := [some (.ref sb), some (.ref (A 0)), some (.ref (B 0)), some (.ref c), some (.int ((nI (6 * k)) + 6)), some (.int k1), some (.int y), none, none]) (st' := []) (by decide +kernel) rfl ?_
      rw [n6 k]
      exact ih _ hL _ _ _ _
    · skip
      refine V.run hF [(.aload_n 3, 1, .null), (.iconst 0, 1, .int (nI 0))] (pc' := 797) (L' := [some (.ref sb), some (.ref (A 0)), some (.ref (B 0)), some (.ref c), some (.int (nI (6 * k))), some (.int k1), some (.int y), none, none]) (st' := [.int (nI 0), .ref c]) (by decide +kernel) rfl ?_
      refine V.laldN (j := 0) hG hF (by decide +kernel) ho2 (by omega) (by decide) ?_
      refine V.run hF [(.iload 6, 2, .null), (.i2l, 1, .null), (.lcmp, 1, .null)] (pc' := 802) (L' := [some (.ref sb), some (.ref (A 0)), some (.ref (B 0)), some (.ref c), some (.int (nI (6 * k))), some (.int k1), some (.int y), none, none]) (st' := [.int (lg_cmp (o1 0) (Int32.toInt64 y))]) (by decide +kernel) rfl ?_
      rw [(lg_cmp_eq _ _).mpr (jo c2)]
      refine V.if_eq hF (off := 5) (tgt := 807) (by decide +kernel) (by decide) (fun c3 => ?_) (fun c3 => ?_)
      · skip
        refine V.run hF [(.goto 1108, 3, .null), (.iinc 4 6, 3, .int 6), (.goto (-1895), 3, .null)] (pc' := 23) (L' := [some (.ref sb), some (.ref (A 0)), some (.ref (B 0)), some (.ref c), some (.int ((nI (6 * k)) + 6)), some (.int k1), some (.int y), none, none]) (st' := []) (by decide +kernel) rfl ?_
        rw [n6 k]
        exact ih _ hL _ _ _ _
      · skip
        exact absurd rfl c3
  · skip
    exact absurd ek c1
set_option maxHeartbeats 8000000 in
theorem lc_year (hG : GOk G) (hN : GNc G) (hF : Ok G F RL cL_law 9 (some .boolean)) (hRm : fR F = { frames := 12, cells := 693274, slots := 7016281, locals := 448 }) (hX : SX G sb n xs) (hn : n ≤ 3072) (hi : 6 * k + 6 ≤ n) (hI : LI a b c k h) (ih : ∀ h', LI a b c (k + 1) h' → ∀ z5 z6 z7 z8, V G F Q kc ks 23 [some (.ref sb), some (.ref a), some (.ref b), some (.ref c), some (.int (nI (6 * (k + 1)))), z5, z6, z7, z8] [] h') : V G F Q (kc + 200) (ks + 1200) 810 [some (.ref sb), some (.ref a), some (.ref b), some (.ref c), some (.int (nI (6 * k))), none, none, none, none] [] h := by
  obtain ⟨A, σ, P, r, B, x, u, md, hs, o, rfl, rfl, hC, hM, hR, hA, hy, ho, dAB, dAc, dBc⟩ := hI
  have k512 : k < 512 := by omega
  have hS : 999 * (k : Int) ≤ 1073741824 := by omega
  have hA1 : Am σ (999 * ((k + 1 : Nat) : Int)) := hA.up (by omega)
  have hy1 : gy σ ≤ 40 * (k + 1) := by omega
  refine V.less (kc' := kc) (ks' := ks) (by omega) (by omega) ?_
  refine V.run hF [(.aload_n 1, 1, .null)] (pc' := 811) (L' := [some (.ref sb), some (.ref (A 0)), some (.ref (B 0)), some (.ref c), some (.int (nI (6 * k))), none, none, none, none]) (st' := [.ref (A 0)]) (by decide +kernel) rfl ?_
  refine V.callV (As := []) (st := []) hG hF k_RL_134 (by decide +kernel) (c_X3_year hG hC) hC.2.2.1 rfl rfl ⟨by rw [hRm]; decide, by rw [hRm]; decide⟩ (Nat.le_of_ble_eq_true rfl) rfl (fun v h_1 gp1 => ?_) (fun E h9 hx => hx.elim)
  obtain ⟨rfl, he_gp1⟩ := gp1
  rw [he_gp1]
  show V G F _ _ _ 814 [some (.ref sb), some (.ref (A 0)), some (.ref (B 0)), some (.ref c), some (.int (nI (6 * k))), none, none, none, none] [.int (nI (gy σ))] h
  refine V.run hF [(.aload_n 2, 1, .null)] (pc' := 815) (L' := [some (.ref sb), some (.ref (A 0)), some (.ref (B 0)), some (.ref c), some (.int (nI (6 * k))), none, none, none, none]) (st' := [.ref (B 0), .int (nI (gy σ))]) (by decide +kernel) rfl ?_
  refine V.callV (As := []) (st := [.int (nI (gy σ))]) hG hF k_RL_137 (by decide +kernel) (c_X4_year hG hM hR) hM.2.1 rfl rfl ⟨by rw [hRm]; decide, by rw [hRm]; decide⟩ (Nat.le_of_ble_eq_true rfl) rfl (fun v2 h2 hp2 => ?_) (fun E h9 hx => hx.elim)
  obtain ⟨rfl, md2, hs2, hM2, hk2⟩ := hp2
  have hL := LI_next hM ho dAB dAc dBc hC ho rfl (fun i hi => Or.inl ⟨i, hi, rfl⟩) hR hM2 (kpN.rf.kB hk2) hA1 hy1
  show V G F _ _ _ 818 [some (.ref sb), some (.ref (A 0)), some (.ref (B 0)), some (.ref c), some (.int (nI (6 * k))), none, none, none, none] [.int (nI (gy σ)), .int (nI (gy σ))] h2
  refine V.icmp_eq hF (off := 1097) (tgt := 1915) (by decide +kernel) (by decide) (fun c1 => ?_) (fun c1 => ?_)
  · skip
    refine V.run hF [(.iinc 4 6, 3, .int 6), (.goto (-1895), 3, .null)] (pc' := 23) (L' := [some (.ref sb), some (.ref (A 0)), some (.ref (B 0)), some (.ref c), some (.int ((nI (6 * k)) + 6)), none, none, none, none]) (st' := []) (by decide +kernel) rfl ?_
    rw [n6 k]
    exact ih _ hL _ _ _ _
  · skip
    exact absurd rfl c1
set_option maxHeartbeats 8000000 in
theorem lc_tablets (hG : GOk G) (hN : GNc G) (hF : Ok G F RL cL_law 9 (some .boolean)) (hRm : fR F = { frames := 12, cells := 693274, slots := 7016281, locals := 448 }) (hX : SX G sb n xs) (hn : n ≤ 3072) (hi : 6 * k + 6 ≤ n) (hI : LI a b c k h) (ih : ∀ h', LI a b c (k + 1) h' → ∀ z5 z6 z7 z8, V G F Q kc ks 23 [some (.ref sb), some (.ref a), some (.ref b), some (.ref c), some (.int (nI (6 * (k + 1)))), z5, z6, z7, z8] [] h') : V G F Q (kc + 200) (ks + 1200) 823 [some (.ref sb), some (.ref a), some (.ref b), some (.ref c), some (.int (nI (6 * k))), none, none, none, none] [] h := by
  obtain ⟨A, σ, P, r, B, x, u, md, hs, o, rfl, rfl, hC, hM, hR, hA, hy, ho, dAB, dAc, dBc⟩ := hI
  have k512 : k < 512 := by omega
  have hS : 999 * (k : Int) ≤ 1073741824 := by omega
  have hA1 : Am σ (999 * ((k + 1 : Nat) : Int)) := hA.up (by omega)
  have hy1 : gy σ ≤ 40 * (k + 1) := by omega
  refine V.less (kc' := kc) (ks' := ks) (by omega) (by omega) ?_
  refine V.run hF [(.aload_n 1, 1, .null)] (pc' := 824) (L' := [some (.ref sb), some (.ref (A 0)), some (.ref (B 0)), some (.ref c), some (.int (nI (6 * k))), none, none, none, none]) (st' := [.ref (A 0)]) (by decide +kernel) rfl ?_
  refine V.callV (As := []) (st := []) hG hF k_RL_138 (by decide +kernel) (c_X3_tablets hG hC) hC.2.2.1 rfl rfl ⟨by rw [hRm]; decide, by rw [hRm]; decide⟩ (Nat.le_of_ble_eq_true rfl) rfl (fun v h_1 gp1 => ?_) (fun E h9 hx => hx.elim)
  obtain ⟨rfl, he_gp1⟩ := gp1
  rw [he_gp1]
  show V G F _ _ _ 827 [some (.ref sb), some (.ref (A 0)), some (.ref (B 0)), some (.ref c), some (.int (nI (6 * k))), none, none, none, none] [.int (nI (gT σ))] h
  refine V.run hF [(.aload_n 2, 1, .null)] (pc' := 828) (L' := [some (.ref sb), some (.ref (A 0)), some (.ref (B 0)), some (.ref c), some (.int (nI (6 * k))), none, none, none, none]) (st' := [.ref (B 0), .int (nI (gT σ))]) (by decide +kernel) rfl ?_
  refine V.callV (As := []) (st := [.int (nI (gT σ))]) hG hF k_RL_141 (by decide +kernel) (c_X4_tablets hG hM hR) hM.2.1 rfl rfl ⟨by rw [hRm]; decide, by rw [hRm]; decide⟩ (Nat.le_of_ble_eq_true rfl) rfl (fun v2 h2 hp2 => ?_) (fun E h9 hx => hx.elim)
  obtain ⟨rfl, md2, hs2, hM2, hk2⟩ := hp2
  have hL := LI_next hM ho dAB dAc dBc hC ho rfl (fun i hi => Or.inl ⟨i, hi, rfl⟩) hR hM2 (kpN.rf.kB hk2) hA1 hy1
  show V G F _ _ _ 831 [some (.ref sb), some (.ref (A 0)), some (.ref (B 0)), some (.ref c), some (.int (nI (6 * k))), none, none, none, none] [.int (nI (gT σ)), .int (nI (gT σ))] h2
  refine V.icmp_eq hF (off := 1084) (tgt := 1915) (by decide +kernel) (by decide) (fun c1 => ?_) (fun c1 => ?_)
  · skip
    refine V.run hF [(.iinc 4 6, 3, .int 6), (.goto (-1895), 3, .null)] (pc' := 23) (L' := [some (.ref sb), some (.ref (A 0)), some (.ref (B 0)), some (.ref c), some (.int ((nI (6 * k)) + 6)), none, none, none, none]) (st' := []) (by decide +kernel) rfl ?_
    rw [n6 k]
    exact ih _ hL _ _ _ _
  · skip
    exact absurd rfl c1
set_option maxHeartbeats 8000000 in
theorem lc_lines (hG : GOk G) (hN : GNc G) (hF : Ok G F RL cL_law 9 (some .boolean)) (hRm : fR F = { frames := 12, cells := 693274, slots := 7016281, locals := 448 }) (hX : SX G sb n xs) (hn : n ≤ 3072) (hi : 6 * k + 6 ≤ n) (hI : LI a b c k h) (ih : ∀ h', LI a b c (k + 1) h' → ∀ z5 z6 z7 z8, V G F Q kc ks 23 [some (.ref sb), some (.ref a), some (.ref b), some (.ref c), some (.int (nI (6 * (k + 1)))), z5, z6, z7, z8] [] h') : V G F Q (kc + 200) (ks + 1200) 836 [some (.ref sb), some (.ref a), some (.ref b), some (.ref c), some (.int (nI (6 * k))), none, none, none, none] [] h := by
  obtain ⟨A, σ, P, r, B, x, u, md, hs, o, rfl, rfl, hC, hM, hR, hA, hy, ho, dAB, dAc, dBc⟩ := hI
  have k512 : k < 512 := by omega
  have hS : 999 * (k : Int) ≤ 1073741824 := by omega
  have hA1 : Am σ (999 * ((k + 1 : Nat) : Int)) := hA.up (by omega)
  have hy1 : gy σ ≤ 40 * (k + 1) := by omega
  refine V.less (kc' := kc) (ks' := ks) (by omega) (by omega) ?_
  refine V.run hF [(.aload_n 1, 1, .null)] (pc' := 837) (L' := [some (.ref sb), some (.ref (A 0)), some (.ref (B 0)), some (.ref c), some (.int (nI (6 * k))), none, none, none, none]) (st' := [.ref (A 0)]) (by decide +kernel) rfl ?_
  refine V.callV (As := []) (st := []) hG hF k_RL_142 (by decide +kernel) (c_X3_lines hG hC) hC.2.2.1 rfl rfl ⟨by rw [hRm]; decide, by rw [hRm]; decide⟩ (Nat.le_of_ble_eq_true rfl) rfl (fun v h_1 gp1 => ?_) (fun E h9 hx => hx.elim)
  obtain ⟨rfl, he_gp1⟩ := gp1
  rw [he_gp1]
  show V G F _ _ _ 840 [some (.ref sb), some (.ref (A 0)), some (.ref (B 0)), some (.ref c), some (.int (nI (6 * k))), none, none, none, none] [.int (gLn σ (gT σ))] h
  refine V.run hF [(.aload_n 2, 1, .null)] (pc' := 841) (L' := [some (.ref sb), some (.ref (A 0)), some (.ref (B 0)), some (.ref c), some (.int (nI (6 * k))), none, none, none, none]) (st' := [.ref (B 0), .int (gLn σ (gT σ))]) (by decide +kernel) rfl ?_
  refine V.callV (As := []) (st := [.int (gLn σ (gT σ))]) hG hF k_RL_145 (by decide +kernel) (c_X4_lines hG hM hR) hM.2.1 rfl rfl ⟨by rw [hRm]; decide, by rw [hRm]; decide⟩ (Nat.le_of_ble_eq_true rfl) rfl (fun v2 h2 hp2 => ?_) (fun E h9 hx => hx.elim)
  obtain ⟨rfl, md2, hs2, hM2, hk2⟩ := hp2
  have hL := LI_next hM ho dAB dAc dBc hC ho rfl (fun i hi => Or.inl ⟨i, hi, rfl⟩) hR hM2 (kpN.rf.kB hk2) hA1 hy1
  show V G F _ _ _ 844 [some (.ref sb), some (.ref (A 0)), some (.ref (B 0)), some (.ref c), some (.int (nI (6 * k))), none, none, none, none] [.int (gLn σ (gT σ)), .int (gLn σ (gT σ))] h2
  refine V.icmp_eq hF (off := 1071) (tgt := 1915) (by decide +kernel) (by decide) (fun c1 => ?_) (fun c1 => ?_)
  · skip
    refine V.run hF [(.iinc 4 6, 3, .int 6), (.goto (-1895), 3, .null)] (pc' := 23) (L' := [some (.ref sb), some (.ref (A 0)), some (.ref (B 0)), some (.ref c), some (.int ((nI (6 * k)) + 6)), none, none, none, none]) (st' := []) (by decide +kernel) rfl ?_
    rw [n6 k]
    exact ih _ hL _ _ _ _
  · skip
    exact absurd rfl c1
set_option maxHeartbeats 8000000 in
theorem lc_melted (hG : GOk G) (hN : GNc G) (hF : Ok G F RL cL_law 9 (some .boolean)) (hRm : fR F = { frames := 12, cells := 693274, slots := 7016281, locals := 448 }) (hX : SX G sb n xs) (hn : n ≤ 3072) (hi : 6 * k + 6 ≤ n) (hI : LI a b c k h) (ih : ∀ h', LI a b c (k + 1) h' → ∀ z5 z6 z7 z8, V G F Q kc ks 23 [some (.ref sb), some (.ref a), some (.ref b), some (.ref c), some (.int (nI (6 * (k + 1)))), z5, z6, z7, z8] [] h') : V G F Q (kc + 200) (ks + 1200) 849 [some (.ref sb), some (.ref a), some (.ref b), some (.ref c), some (.int (nI (6 * k))), none, none, none, none] [] h := by
  obtain ⟨A, σ, P, r, B, x, u, md, hs, o, rfl, rfl, hC, hM, hR, hA, hy, ho, dAB, dAc, dBc⟩ := hI
  have k512 : k < 512 := by omega
  have hS : 999 * (k : Int) ≤ 1073741824 := by omega
  have hA1 : Am σ (999 * ((k + 1 : Nat) : Int)) := hA.up (by omega)
  have hy1 : gy σ ≤ 40 * (k + 1) := by omega
  refine V.less (kc' := kc) (ks' := ks) (by omega) (by omega) ?_
  refine V.run hF [(.aload_n 1, 1, .null)] (pc' := 850) (L' := [some (.ref sb), some (.ref (A 0)), some (.ref (B 0)), some (.ref c), some (.int (nI (6 * k))), none, none, none, none]) (st' := [.ref (A 0)]) (by decide +kernel) rfl ?_
  refine V.callV (As := []) (st := []) hG hF k_RL_146 (by decide +kernel) (c_X3_melted hG hC) hC.2.2.1 rfl rfl ⟨by rw [hRm]; decide, by rw [hRm]; decide⟩ (Nat.le_of_ble_eq_true rfl) rfl (fun v h_1 gp1 => ?_) (fun E h9 hx => hx.elim)
  obtain ⟨rfl, he_gp1⟩ := gp1
  rw [he_gp1]
  show V G F _ _ _ 853 [some (.ref sb), some (.ref (A 0)), some (.ref (B 0)), some (.ref c), some (.int (nI (6 * k))), none, none, none, none] [.int (gme σ)] h
  refine V.run hF [(.aload_n 2, 1, .null)] (pc' := 854) (L' := [some (.ref sb), some (.ref (A 0)), some (.ref (B 0)), some (.ref c), some (.int (nI (6 * k))), none, none, none, none]) (st' := [.ref (B 0), .int (gme σ)]) (by decide +kernel) rfl ?_
  refine V.callV (As := []) (st := [.int (gme σ)]) hG hF k_RL_149 (by decide +kernel) (c_X4_melted hG hM hR) hM.2.1 rfl rfl ⟨by rw [hRm]; decide, by rw [hRm]; decide⟩ (Nat.le_of_ble_eq_true rfl) rfl (fun v2 h2 hp2 => ?_) (fun E h9 hx => hx.elim)
  obtain ⟨rfl, md2, hs2, hM2, hk2⟩ := hp2
  have hL := LI_next hM ho dAB dAc dBc hC ho rfl (fun i hi => Or.inl ⟨i, hi, rfl⟩) hR hM2 (kpN.rf.kB hk2) hA1 hy1
  show V G F _ _ _ 857 [some (.ref sb), some (.ref (A 0)), some (.ref (B 0)), some (.ref c), some (.int (nI (6 * k))), none, none, none, none] [.int (gme σ), .int (gme σ)] h2
  refine V.icmp_eq hF (off := 1058) (tgt := 1915) (by decide +kernel) (by decide) (fun c1 => ?_) (fun c1 => ?_)
  · skip
    refine V.run hF [(.iinc 4 6, 3, .int 6), (.goto (-1895), 3, .null)] (pc' := 23) (L' := [some (.ref sb), some (.ref (A 0)), some (.ref (B 0)), some (.ref c), some (.int ((nI (6 * k)) + 6)), none, none, none, none]) (st' := []) (by decide +kernel) rfl ?_
    rw [n6 k]
    exact ih _ hL _ _ _ _
  · skip
    exact absurd rfl c1
set_option maxHeartbeats 8000000 in
theorem lc_denied (hG : GOk G) (hN : GNc G) (hF : Ok G F RL cL_law 9 (some .boolean)) (hRm : fR F = { frames := 12, cells := 693274, slots := 7016281, locals := 448 }) (hX : SX G sb n xs) (hn : n ≤ 3072) (hi : 6 * k + 6 ≤ n) (hI : LI a b c k h) (ih : ∀ h', LI a b c (k + 1) h' → ∀ z5 z6 z7 z8, V G F Q kc ks 23 [some (.ref sb), some (.ref a), some (.ref b), some (.ref c), some (.int (nI (6 * (k + 1)))), z5, z6, z7, z8] [] h') : V G F Q (kc + 200) (ks + 1200) 862 [some (.ref sb), some (.ref a), some (.ref b), some (.ref c), some (.int (nI (6 * k))), none, none, none, none] [] h := by
  obtain ⟨A, σ, P, r, B, x, u, md, hs, o, rfl, rfl, hC, hM, hR, hA, hy, ho, dAB, dAc, dBc⟩ := hI
  have k512 : k < 512 := by omega
  have hS : 999 * (k : Int) ≤ 1073741824 := by omega
  have hA1 : Am σ (999 * ((k + 1 : Nat) : Int)) := hA.up (by omega)
  have hy1 : gy σ ≤ 40 * (k + 1) := by omega
  refine V.less (kc' := kc) (ks' := ks) (by omega) (by omega) ?_
  refine V.run hF [(.aload_n 1, 1, .null)] (pc' := 863) (L' := [some (.ref sb), some (.ref (A 0)), some (.ref (B 0)), some (.ref c), some (.int (nI (6 * k))), none, none, none, none]) (st' := [.ref (A 0)]) (by decide +kernel) rfl ?_
  refine V.callV (As := []) (st := []) hG hF k_RL_150 (by decide +kernel) (c_X3_denied hG hC) hC.2.2.1 rfl rfl ⟨by rw [hRm]; decide, by rw [hRm]; decide⟩ (Nat.le_of_ble_eq_true rfl) rfl (fun v h_1 gp1 => ?_) (fun E h9 hx => hx.elim)
  obtain ⟨rfl, he_gp1⟩ := gp1
  rw [he_gp1]
  show V G F _ _ _ 866 [some (.ref sb), some (.ref (A 0)), some (.ref (B 0)), some (.ref c), some (.int (nI (6 * k))), none, none, none, none] [.int (gde σ)] h
  refine V.run hF [(.aload_n 2, 1, .null)] (pc' := 867) (L' := [some (.ref sb), some (.ref (A 0)), some (.ref (B 0)), some (.ref c), some (.int (nI (6 * k))), none, none, none, none]) (st' := [.ref (B 0), .int (gde σ)]) (by decide +kernel) rfl ?_
  refine V.callV (As := []) (st := [.int (gde σ)]) hG hF k_RL_153 (by decide +kernel) (c_X4_denied hG hM hR) hM.2.1 rfl rfl ⟨by rw [hRm]; decide, by rw [hRm]; decide⟩ (Nat.le_of_ble_eq_true rfl) rfl (fun v2 h2 hp2 => ?_) (fun E h9 hx => hx.elim)
  obtain ⟨rfl, md2, hs2, hM2, hk2⟩ := hp2
  have hL := LI_next hM ho dAB dAc dBc hC ho rfl (fun i hi => Or.inl ⟨i, hi, rfl⟩) hR hM2 (kpN.rf.kB hk2) hA1 hy1
  show V G F _ _ _ 870 [some (.ref sb), some (.ref (A 0)), some (.ref (B 0)), some (.ref c), some (.int (nI (6 * k))), none, none, none, none] [.int (gde σ), .int (gde σ)] h2
  refine V.icmp_eq hF (off := 1045) (tgt := 1915) (by decide +kernel) (by decide) (fun c1 => ?_) (fun c1 => ?_)
  · skip
    refine V.run hF [(.iinc 4 6, 3, .int 6), (.goto (-1895), 3, .null)] (pc' := 23) (L' := [some (.ref sb), some (.ref (A 0)), some (.ref (B 0)), some (.ref c), some (.int ((nI (6 * k)) + 6)), none, none, none, none]) (st' := []) (by decide +kernel) rfl ?_
    rw [n6 k]
    exact ih _ hL _ _ _ _
  · skip
    exact absurd rfl c1
set_option maxHeartbeats 8000000 in
theorem lc_isThere (hG : GOk G) (hN : GNc G) (hF : Ok G F RL cL_law 9 (some .boolean)) (hRm : fR F = { frames := 12, cells := 693274, slots := 7016281, locals := 448 }) (hX : SX G sb n xs) (hn : n ≤ 3072) (hi : 6 * k + 6 ≤ n) (hI : LI a b c k h) (ih : ∀ h', LI a b c (k + 1) h' → ∀ z5 z6 z7 z8, V G F Q kc ks 23 [some (.ref sb), some (.ref a), some (.ref b), some (.ref c), some (.int (nI (6 * (k + 1)))), z5, z6, z7, z8] [] h') : V G F Q (kc + 200) (ks + 1200) 875 [some (.ref sb), some (.ref a), some (.ref b), some (.ref c), some (.int (nI (6 * k))), none, none, none, none] [] h := by
  obtain ⟨A, σ, P, r, B, x, u, md, hs, o, rfl, rfl, hC, hM, hR, hA, hy, ho, dAB, dAc, dBc⟩ := hI
  have k512 : k < 512 := by omega
  have hS : 999 * (k : Int) ≤ 1073741824 := by omega
  have hA1 : Am σ (999 * ((k + 1 : Nat) : Int)) := hA.up (by omega)
  have hy1 : gy σ ≤ 40 * (k + 1) := by omega
  refine V.run hF [(.aload_n 1, 1, .null), (.aload_n 0, 1, .null), (.iload 4, 2, .null), (.iconst 1, 1, .int (nI 1)), (.iadd, 1, .null)] (pc' := 881) (L' := [some (.ref sb), some (.ref (A 0)), some (.ref (B 0)), some (.ref c), some (.int (nI (6 * k))), none, none, none, none]) (st' := [.int (nI (6 * k) + nI 1), .ref sb, .ref (A 0)]) (by decide +kernel) rfl ?_
  rw [nI_add (6 * k) 1]
  refine V.sld (j := 6 * k + 1) hF hX (by decide +kernel) (by omega) (by omega) ?_
  refine V.run hF [(.aload_n 3, 1, .null)] (pc' := 883) (L' := [some (.ref sb), some (.ref (A 0)), some (.ref (B 0)), some (.ref c), some (.int (nI (6 * k))), none, none, none, none]) (st' := [.ref c, .int (xs (6 * k + 1)), .ref (A 0)]) (by decide +kernel) rfl ?_
  refine V.less (kc' := kc + 1) (ks' := ks + 6) (by omega) (by omega) ?_
  refine V.callSW (As := [.ref (A 0), .int (xs (6 * k + 1)), .ref c]) (st := []) hG hF k_RL_154 (by decide +kernel) (n_isThere hG hN hC ho dAc (fun p hp => (hR.2.1 p hp).2) (xs (6 * k + 1))) rfl ⟨by rw [hRm]; decide, by rw [hRm]; decide⟩ (Nat.le_of_ble_eq_true rfl) rfl (fun v1 h1 hp => ?_) (fun E h9 hx => hx.elim)
  obtain ⟨k1, σ', A1, P1, r1, o1, rfl, s1, d1, hC1, ho1, e10, e11, e12⟩ := hp
  have hM1 := LI_B hM dAB dBc e12
  show V G F _ _ _ 886 [some (.ref sb), some (.ref (A 0)), some (.ref (B 0)), some (.ref c), some (.int (nI (6 * k))), none, none, none, none] [.int k1] h1
  refine V.run hF [(.istore 5, 2, .null), (.aload_n 2, 1, .null), (.aload_n 0, 1, .null), (.iload 4, 2, .null), (.iconst 1, 1, .int (nI 1)), (.iadd, 1, .null)] (pc' := 894) (L' := [some (.ref sb), some (.ref (A 0)), some (.ref (B 0)), some (.ref c), some (.int (nI (6 * k))), some (.int k1), none, none, none]) (st' := [.int (nI (6 * k) + nI 1), .ref sb, .ref (B 0)]) (by decide +kernel) rfl ?_
  rw [nI_add (6 * k) 1]
  refine V.sld (j := 6 * k + 1) hF hX (by decide +kernel) (by omega) (by omega) ?_
  refine V.callV (As := [.int (xs (6 * k + 1))]) (st := []) hG hF k_RL_156 (by decide +kernel) (m_isThere hG hM1 hR (xs (6 * k + 1))) hM1.2.1 rfl rfl ⟨by rw [hRm]; decide, by rw [hRm]; decide⟩ (Nat.le_of_ble_eq_true rfl) rfl (fun v2 h2 hp2 => ?_) (fun E h9 hx => hx.elim)
  obtain ⟨k2, y, σ2, u2, md2, hs2, rfl, s2, d2, hR2, hM2, hk2⟩ := hp2
  have ek : k2 = k1 := st1_u s2 s1
  obtain ⟨rfl, jo, jA, jy⟩ := joinR (R := RI k) ek d1 d2 (fun z => by
    exact ⟨hA1, hy1⟩) ⟨hA1, hy1⟩
  have hL := LI_next hM ho dAB dAc dBc hC1 ho1 e10 e11 hR2 hM2 hk2 jA jy
  have ho2 : h2 c = some (out1 o1) := hk2 c _ ho1 (fun j hj q => dBc j hj q.symm)
  show V G F _ _ _ 898 [some (.ref sb), some (.ref (A 0)), some (.ref (B 0)), some (.ref c), some (.int (nI (6 * k))), some (.int k1), none, none, none] [.int y] h2
  refine V.run hF [(.istore 6, 2, .null), (.aload_n 2, 1, .null)] (pc' := 901) (L' := [some (.ref sb), some (.ref (A 0)), some (.ref (B 0)), some (.ref c), some (.int (nI (6 * k))), some (.int k1), some (.int y), none, none]) (st' := [.ref (B 0)]) (by decide +kernel) rfl ?_
  refine V.callV (As := []) (st := []) hG hF k_RL_103 (by decide +kernel) (c_X4_thrown hG hM2) hM2.2.1 rfl rfl ⟨by rw [hRm]; decide, by rw [hRm]; decide⟩ (Nat.le_of_ble_eq_true rfl) rfl (fun v h_3 gp3 => ?_) (fun E h9 hx => hx.elim)
  obtain ⟨rfl, he_gp3⟩ := gp3
  rw [he_gp3]
  show V G F _ _ _ 904 [some (.ref sb), some (.ref (A 0)), some (.ref (B 0)), some (.ref c), some (.int (nI (6 * k))), some (.int k1), some (.int y), none, none] [.int k2] h2
  refine V.run hF [(.iload 5, 2, .null)] (pc' := 906) (L' := [some (.ref sb), some (.ref (A 0)), some (.ref (B 0)), some (.ref c), some (.int (nI (6 * k))), some (.int k1), some (.int y), none, none]) (st' := [.int k1, .int k2]) (by decide +kernel) rfl ?_
  refine V.icmp_eq hF (off := 5) (tgt := 911) (by decide +kernel) (by decide) (fun c1 => ?_) (fun c1 => ?_)
  · skip
    refine V.run hF [(.iload 5, 2, .null)] (pc' := 913) (L' := [some (.ref sb), some (.ref (A 0)), some (.ref (B 0)), some (.ref c), some (.int (nI (6 * k))), some (.int k1), some (.int y), none, none]) (st' := [.int k1]) (by decide +kernel) rfl ?_
    refine V.if_ne hF (off := 22) (tgt := 935) (by decide +kernel) (by decide) (fun c2 => ?_) (fun c2 => ?_)
    · skip
      refine V.run hF [(.goto 980, 3, .null), (.iinc 4 6, 3, .int 6), (.goto (-1895), 3, .null)] (pc' := 23) (L' := [some (.ref sb), some (.ref (A 0)), some (.ref (B 0)), some (.ref c), some (.int ((nI (6 * k)) + 6)), some (.int k1), some (.int y), none, none]) (st' := []) (by decide +kernel) rfl ?_
      rw [n6 k]
      exact ih _ hL _ _ _ _
    · skip
      refine V.run hF [(.aload_n 3, 1, .null), (.iconst 0, 1, .int (nI 0))] (pc' := 918) (L' := [some (.ref sb), some (.ref (A 0)), some (.ref (B 0)), some (.ref c), some (.int (nI (6 * k))), some (.int k1), some (.int y), none, none]) (st' := [.int (nI 0), .ref c]) (by decide +kernel) rfl ?_
      refine V.laldN (j := 0) hG hF (by decide +kernel) ho2 (by omega) (by decide) ?_
      refine V.run hF [(.iload 6, 2, .null)] (pc' := 921) (L' := [some (.ref sb), some (.ref (A 0)), some (.ref (B 0)), some (.ref c), some (.int (nI (6 * k))), some (.int k1), some (.int y), none, none]) (st' := [.int y, .long (o1 0)]) (by decide +kernel) rfl ?_
      refine V.if_eq hF (off := 7) (tgt := 928) (by decide +kernel) (by decide) (fun c4 => ?_) (fun c4 => ?_)
      · skip
        refine V.run hF [(.lconst 0, 1, .long 0), (.lcmp, 1, .null)] (pc' := 930) (L' := [some (.ref sb), some (.ref (A 0)), some (.ref (B 0)), some (.ref c), some (.int (nI (6 * k))), some (.int k1), some (.int y), none, none]) (st' := [.int (lg_cmp (o1 0) 0)]) (by decide +kernel) rfl ?_
        rw [(lg_cmp_eq _ _).mpr ((jo c2).trans (if_pos c4))]
        refine V.if_eq hF (off := 5) (tgt := 935) (by decide +kernel) (by decide) (fun c3 => ?_) (fun c3 => ?_)
        · skip
          refine V.run hF [(.goto 980, 3, .null), (.iinc 4 6, 3, .int 6), (.goto (-1895), 3, .null)] (pc' := 23) (L' := [some (.ref sb), some (.ref (A 0)), some (.ref (B 0)), some (.ref c), some (.int ((nI (6 * k)) + 6)), some (.int k1), some (.int y), none, none]) (st' := []) (by decide +kernel) rfl ?_
          rw [n6 k]
          exact ih _ hL _ _ _ _
        · skip
          exact absurd rfl c3
      · skip
        refine V.run hF [(.lconst 1, 1, .long 1), (.goto 4, 3, .null), (.lcmp, 1, .null)] (pc' := 930) (L' := [some (.ref sb), some (.ref (A 0)), some (.ref (B 0)), some (.ref c), some (.int (nI (6 * k))), some (.int k1), some (.int y), none, none]) (st' := [.int (lg_cmp (o1 0) 1)]) (by decide +kernel) rfl ?_
        rw [(lg_cmp_eq _ _).mpr ((jo c2).trans (if_neg c4))]
        refine V.if_eq hF (off := 5) (tgt := 935) (by decide +kernel) (by decide) (fun c3 => ?_) (fun c3 => ?_)
        · skip
          refine V.run hF [(.goto 980, 3, .null), (.iinc 4 6, 3, .int 6), (.goto (-1895), 3, .null)] (pc' := 23) (L' := [some (.ref sb), some (.ref (A 0)), some (.ref (B 0)), some (.ref c), some (.int ((nI (6 * k)) + 6)), some (.int k1), some (.int y), none, none]) (st' := []) (by decide +kernel) rfl ?_
          rw [n6 k]
          exact ih _ hL _ _ _ _
        · skip
          exact absurd rfl c3
  · skip
    exact absurd ek c1
set_option maxHeartbeats 8000000 in
theorem lc_linesOf (hG : GOk G) (hN : GNc G) (hF : Ok G F RL cL_law 9 (some .boolean)) (hRm : fR F = { frames := 12, cells := 693274, slots := 7016281, locals := 448 }) (hX : SX G sb n xs) (hn : n ≤ 3072) (hi : 6 * k + 6 ≤ n) (hI : LI a b c k h) (ih : ∀ h', LI a b c (k + 1) h' → ∀ z5 z6 z7 z8, V G F Q kc ks 23 [some (.ref sb), some (.ref a), some (.ref b), some (.ref c), some (.int (nI (6 * (k + 1)))), z5, z6, z7, z8] [] h') : V G F Q (kc + 200) (ks + 1200) 938 [some (.ref sb), some (.ref a), some (.ref b), some (.ref c), some (.int (nI (6 * k))), none, none, none, none] [] h := by
  obtain ⟨A, σ, P, r, B, x, u, md, hs, o, rfl, rfl, hC, hM, hR, hA, hy, ho, dAB, dAc, dBc⟩ := hI
  have k512 : k < 512 := by omega
  have hS : 999 * (k : Int) ≤ 1073741824 := by omega
  have hA1 : Am σ (999 * ((k + 1 : Nat) : Int)) := hA.up (by omega)
  have hy1 : gy σ ≤ 40 * (k + 1) := by omega
  refine V.run hF [(.aload_n 1, 1, .null), (.aload_n 0, 1, .null), (.iload 4, 2, .null), (.iconst 1, 1, .int (nI 1)), (.iadd, 1, .null)] (pc' := 944) (L' := [some (.ref sb), some (.ref (A 0)), some (.ref (B 0)), some (.ref c), some (.int (nI (6 * k))), none, none, none, none]) (st' := [.int (nI (6 * k) + nI 1), .ref sb, .ref (A 0)]) (by decide +kernel) rfl ?_
  rw [nI_add (6 * k) 1]
  refine V.sld (j := 6 * k + 1) hF hX (by decide +kernel) (by omega) (by omega) ?_
  refine V.run hF [(.aload_n 3, 1, .null)] (pc' := 946) (L' := [some (.ref sb), some (.ref (A 0)), some (.ref (B 0)), some (.ref c), some (.int (nI (6 * k))), none, none, none, none]) (st' := [.ref c, .int (xs (6 * k + 1)), .ref (A 0)]) (by decide +kernel) rfl ?_
  refine V.less (kc' := kc + 2) (ks' := ks + 12) (by omega) (by omega) ?_
  refine V.callSW (As := [.ref (A 0), .int (xs (6 * k + 1)), .ref c]) (st := []) hG hF k_RL_157 (by decide +kernel) (n_linesOf hG hN hC ho dAc (xs (6 * k + 1))) rfl ⟨by rw [hRm]; decide, by rw [hRm]; decide⟩ (Nat.le_of_ble_eq_true rfl) rfl (fun v1 h1 hp => ?_) (fun E h9 hx => hx.elim)
  obtain ⟨k1, σ', A1, P1, r1, o1, rfl, s1, d1, hC1, ho1, e10, e11, e12⟩ := hp
  have hM1 := LI_B hM dAB dBc e12
  show V G F _ _ _ 949 [some (.ref sb), some (.ref (A 0)), some (.ref (B 0)), some (.ref c), some (.int (nI (6 * k))), none, none, none, none] [.int k1] h1
  refine V.run hF [(.istore 5, 2, .null), (.aload_n 2, 1, .null), (.aload_n 0, 1, .null), (.iload 4, 2, .null), (.iconst 1, 1, .int (nI 1)), (.iadd, 1, .null)] (pc' := 957) (L' := [some (.ref sb), some (.ref (A 0)), some (.ref (B 0)), some (.ref c), some (.int (nI (6 * k))), some (.int k1), none, none, none]) (st' := [.int (nI (6 * k) + nI 1), .ref sb, .ref (B 0)]) (by decide +kernel) rfl ?_
  rw [nI_add (6 * k) 1]
  refine V.sld (j := 6 * k + 1) hF hX (by decide +kernel) (by omega) (by omega) ?_
  refine V.callV (As := [.int (xs (6 * k + 1))]) (st := []) hG hF k_RL_159 (by decide +kernel) (m_linesOf hG hM1 hR (xs (6 * k + 1))) hM1.2.1 rfl rfl ⟨by rw [hRm]; decide, by rw [hRm]; decide⟩ (Nat.le_of_ble_eq_true rfl) rfl (fun v2 h2 hp2 => ?_) (fun E h9 hx => hx.elim)
  obtain ⟨k2, y, σ2, u2, md2, hs2, rfl, s2, d2, hR2, hM2, hk2⟩ := hp2
  have ek : k2 = k1 := st1_u s2 s1
  obtain ⟨rfl, jo, jA, jy⟩ := joinR (R := RI k) ek d1 d2 (fun z => by
    exact ⟨hA1, hy1⟩) ⟨hA1, hy1⟩
  have hL := LI_next hM ho dAB dAc dBc hC1 ho1 e10 e11 hR2 hM2 hk2 jA jy
  have ho2 : h2 c = some (out1 o1) := hk2 c _ ho1 (fun j hj q => dBc j hj q.symm)
  show V G F _ _ _ 961 [some (.ref sb), some (.ref (A 0)), some (.ref (B 0)), some (.ref c), some (.int (nI (6 * k))), some (.int k1), none, none, none] [.int y] h2
  refine V.run hF [(.istore 6, 2, .null), (.aload_n 2, 1, .null)] (pc' := 964) (L' := [some (.ref sb), some (.ref (A 0)), some (.ref (B 0)), some (.ref c), some (.int (nI (6 * k))), some (.int k1), some (.int y), none, none]) (st' := [.ref (B 0)]) (by decide +kernel) rfl ?_
  refine V.callV (As := []) (st := []) hG hF k_RL_103 (by decide +kernel) (c_X4_thrown hG hM2) hM2.2.1 rfl rfl ⟨by rw [hRm]; decide, by rw [hRm]; decide⟩ (Nat.le_of_ble_eq_true rfl) rfl (fun v h_3 gp3 => ?_) (fun E h9 hx => hx.elim)
  obtain ⟨rfl, he_gp3⟩ := gp3
  rw [he_gp3]
  show V G F _ _ _ 967 [some (.ref sb), some (.ref (A 0)), some (.ref (B 0)), some (.ref c), some (.int (nI (6 * k))), some (.int k1), some (.int y), none, none] [.int k2] h2
  refine V.run hF [(.iload 5, 2, .null)] (pc' := 969) (L' := [some (.ref sb), some (.ref (A 0)), some (.ref (B 0)), some (.ref c), some (.int (nI (6 * k))), some (.int k1), some (.int y), none, none]) (st' := [.int k1, .int k2]) (by decide +kernel) rfl ?_
  refine V.icmp_eq hF (off := 5) (tgt := 974) (by decide +kernel) (by decide) (fun c1 => ?_) (fun c1 => ?_)
  · skip
    refine V.run hF [(.iload 5, 2, .null)] (pc' := 976) (L' := [some (.ref sb), some (.ref (A 0)), some (.ref (B 0)), some (.ref c), some (.int (nI (6 * k))), some (.int k1), some (.int y), none, none]) (st' := [.int k1]) (by decide +kernel) rfl ?_
    refine V.if_ne hF (off := 15) (tgt := 991) (by decide +kernel) (by decide) (fun c2 => ?_) (fun c2 => ?_)
    · skip
      refine V.run hF [(.goto 924, 3, .null), (.iinc 4 6, 3, .int 6), (.goto (-1895), 3, .null)] (pc' := 23) (L' := [some (.ref sb), some (.ref (A 0)), some (.ref (B 0)), some (.ref c), some (.int ((nI (6 * k)) + 6)), some (.int k1), some (.int y), none, none]) (st' := []) (by decide +kernel) rfl ?_
      rw [n6 k]
      exact ih _ hL _ _ _ _
    · skip
      refine V.run hF [(.aload_n 3, 1, .null), (.iconst 0, 1, .int (nI 0))] (pc' := 981) (L' := [some (.ref sb), some (.ref (A 0)), some (.ref (B 0)), some (.ref c), some (.int (nI (6 * k))), some (.int k1), some (.int y), none, none]) (st' := [.int (nI 0), .ref c]) (by decide +kernel) rfl ?_
      refine V.laldN (j := 0) hG hF (by decide +kernel) ho2 (by omega) (by decide) ?_
      refine V.run hF [(.iload 6, 2, .null), (.i2l, 1, .null), (.lcmp, 1, .null)] (pc' := 986) (L' := [some (.ref sb), some (.ref (A 0)), some (.ref (B 0)), some (.ref c), some (.int (nI (6 * k))), some (.int k1), some (.int y), none, none]) (st' := [.int (lg_cmp (o1 0) (Int32.toInt64 y))]) (by decide +kernel) rfl ?_
      rw [(lg_cmp_eq _ _).mpr (jo c2)]
      refine V.if_eq hF (off := 5) (tgt := 991) (by decide +kernel) (by decide) (fun c3 => ?_) (fun c3 => ?_)
      · skip
        refine V.run hF [(.goto 924, 3, .null), (.iinc 4 6, 3, .int 6), (.goto (-1895), 3, .null)] (pc' := 23) (L' := [some (.ref sb), some (.ref (A 0)), some (.ref (B 0)), some (.ref c), some (.int ((nI (6 * k)) + 6)), some (.int k1), some (.int y), none, none]) (st' := []) (by decide +kernel) rfl ?_
        rw [n6 k]
        exact ih _ hL _ _ _ _
      · skip
        exact absurd rfl c3
  · skip
    exact absurd ek c1
set_option maxHeartbeats 8000000 in
theorem lc_isInCellar (hG : GOk G) (hN : GNc G) (hF : Ok G F RL cL_law 9 (some .boolean)) (hRm : fR F = { frames := 12, cells := 693274, slots := 7016281, locals := 448 }) (hX : SX G sb n xs) (hn : n ≤ 3072) (hi : 6 * k + 6 ≤ n) (hI : LI a b c k h) (ih : ∀ h', LI a b c (k + 1) h' → ∀ z5 z6 z7 z8, V G F Q kc ks 23 [some (.ref sb), some (.ref a), some (.ref b), some (.ref c), some (.int (nI (6 * (k + 1)))), z5, z6, z7, z8] [] h') : V G F Q (kc + 200) (ks + 1200) 994 [some (.ref sb), some (.ref a), some (.ref b), some (.ref c), some (.int (nI (6 * k))), none, none, none, none] [] h := by
  obtain ⟨A, σ, P, r, B, x, u, md, hs, o, rfl, rfl, hC, hM, hR, hA, hy, ho, dAB, dAc, dBc⟩ := hI
  have k512 : k < 512 := by omega
  have hS : 999 * (k : Int) ≤ 1073741824 := by omega
  have hA1 : Am σ (999 * ((k + 1 : Nat) : Int)) := hA.up (by omega)
  have hy1 : gy σ ≤ 40 * (k + 1) := by omega
  refine V.run hF [(.aload_n 1, 1, .null), (.aload_n 0, 1, .null), (.iload 4, 2, .null), (.iconst 1, 1, .int (nI 1)), (.iadd, 1, .null)] (pc' := 1000) (L' := [some (.ref sb), some (.ref (A 0)), some (.ref (B 0)), some (.ref c), some (.int (nI (6 * k))), none, none, none, none]) (st' := [.int (nI (6 * k) + nI 1), .ref sb, .ref (A 0)]) (by decide +kernel) rfl ?_
  rw [nI_add (6 * k) 1]
  refine V.sld (j := 6 * k + 1) hF hX (by decide +kernel) (by omega) (by omega) ?_
  refine V.run hF [(.aload_n 3, 1, .null)] (pc' := 1002) (L' := [some (.ref sb), some (.ref (A 0)), some (.ref (B 0)), some (.ref c), some (.int (nI (6 * k))), none, none, none, none]) (st' := [.ref c, .int (xs (6 * k + 1)), .ref (A 0)]) (by decide +kernel) rfl ?_
  refine V.less (kc' := kc + 2) (ks' := ks + 12) (by omega) (by omega) ?_
  refine V.callSW (As := [.ref (A 0), .int (xs (6 * k + 1)), .ref c]) (st := []) hG hF k_RL_160 (by decide +kernel) (n_isInCellar hG hN hC ho dAc (fun t ht => (hR.2.2.2.1 t ht).2.2.1) (xs (6 * k + 1))) rfl ⟨by rw [hRm]; decide, by rw [hRm]; decide⟩ (Nat.le_of_ble_eq_true rfl) rfl (fun v1 h1 hp => ?_) (fun E h9 hx => hx.elim)
  obtain ⟨k1, σ', A1, P1, r1, o1, rfl, s1, d1, hC1, ho1, e10, e11, e12⟩ := hp
  have hM1 := LI_B hM dAB dBc e12
  show V G F _ _ _ 1005 [some (.ref sb), some (.ref (A 0)), some (.ref (B 0)), some (.ref c), some (.int (nI (6 * k))), none, none, none, none] [.int k1] h1
  refine V.run hF [(.istore 5, 2, .null), (.aload_n 2, 1, .null), (.aload_n 0, 1, .null), (.iload 4, 2, .null), (.iconst 1, 1, .int (nI 1)), (.iadd, 1, .null)] (pc' := 1013) (L' := [some (.ref sb), some (.ref (A 0)), some (.ref (B 0)), some (.ref c), some (.int (nI (6 * k))), some (.int k1), none, none, none]) (st' := [.int (nI (6 * k) + nI 1), .ref sb, .ref (B 0)]) (by decide +kernel) rfl ?_
  rw [nI_add (6 * k) 1]
  refine V.sld (j := 6 * k + 1) hF hX (by decide +kernel) (by omega) (by omega) ?_
  refine V.callV (As := [.int (xs (6 * k + 1))]) (st := []) hG hF k_RL_162 (by decide +kernel) (m_isInCellar hG hM1 hR (xs (6 * k + 1))) hM1.2.1 rfl rfl ⟨by rw [hRm]; decide, by rw [hRm]; decide⟩ (Nat.le_of_ble_eq_true rfl) rfl (fun v2 h2 hp2 => ?_) (fun E h9 hx => hx.elim)
  obtain ⟨k2, y, σ2, u2, md2, hs2, rfl, s2, d2, hR2, hM2, hk2⟩ := hp2
  have ek : k2 = k1 := st1_u s2 s1
  obtain ⟨rfl, jo, jA, jy⟩ := joinR (R := RI k) ek d1 d2 (fun z => by
    exact ⟨hA1, hy1⟩) ⟨hA1, hy1⟩
  have hL := LI_next hM ho dAB dAc dBc hC1 ho1 e10 e11 hR2 hM2 hk2 jA jy
  have ho2 : h2 c = some (out1 o1) := hk2 c _ ho1 (fun j hj q => dBc j hj q.symm)
  show V G F _ _ _ 1017 [some (.ref sb), some (.ref (A 0)), some (.ref (B 0)), some (.ref c), some (.int (nI (6 * k))), some (.int k1), none, none, none] [.int y] h2
  refine V.run hF [(.istore 6, 2, .null), (.aload_n 2, 1, .null)] (pc' := 1020) (L' := [some (.ref sb), some (.ref (A 0)), some (.ref (B 0)), some (.ref c), some (.int (nI (6 * k))), some (.int k1), some (.int y), none, none]) (st' := [.ref (B 0)]) (by decide +kernel) rfl ?_
  refine V.callV (As := []) (st := []) hG hF k_RL_103 (by decide +kernel) (c_X4_thrown hG hM2) hM2.2.1 rfl rfl ⟨by rw [hRm]; decide, by rw [hRm]; decide⟩ (Nat.le_of_ble_eq_true rfl) rfl (fun v h_3 gp3 => ?_) (fun E h9 hx => hx.elim)
  obtain ⟨rfl, he_gp3⟩ := gp3
  rw [he_gp3]
  show V G F _ _ _ 1023 [some (.ref sb), some (.ref (A 0)), some (.ref (B 0)), some (.ref c), some (.int (nI (6 * k))), some (.int k1), some (.int y), none, none] [.int k2] h2
  refine V.run hF [(.iload 5, 2, .null)] (pc' := 1025) (L' := [some (.ref sb), some (.ref (A 0)), some (.ref (B 0)), some (.ref c), some (.int (nI (6 * k))), some (.int k1), some (.int y), none, none]) (st' := [.int k1, .int k2]) (by decide +kernel) rfl ?_
  refine V.icmp_eq hF (off := 5) (tgt := 1030) (by decide +kernel) (by decide) (fun c1 => ?_) (fun c1 => ?_)
  · skip
    refine V.run hF [(.iload 5, 2, .null)] (pc' := 1032) (L' := [some (.ref sb), some (.ref (A 0)), some (.ref (B 0)), some (.ref c), some (.int (nI (6 * k))), some (.int k1), some (.int y), none, none]) (st' := [.int k1]) (by decide +kernel) rfl ?_
    refine V.if_ne hF (off := 22) (tgt := 1054) (by decide +kernel) (by decide) (fun c2 => ?_) (fun c2 => ?_)
    · skip
      refine V.run hF [(.goto 861, 3, .null), (.iinc 4 6, 3, .int 6), (.goto (-1895), 3, .null)] (pc' := 23) (L' := [some (.ref sb), some (.ref (A 0)), some (.ref (B 0)), some (.ref c), some (.int ((nI (6 * k)) + 6)), some (.int k1), some (.int y), none, none]) (st' := []) (by decide +kernel) rfl ?_
      rw [n6 k]
      exact ih _ hL _ _ _ _
    · skip
      refine V.run hF [(.aload_n 3, 1, .null), (.iconst 0, 1, .int (nI 0))] (pc' := 1037) (L' := [some (.ref sb), some (.ref (A 0)), some (.ref (B 0)), some (.ref c), some (.int (nI (6 * k))), some (.int k1), some (.int y), none, none]) (st' := [.int (nI 0), .ref c]) (by decide +kernel) rfl ?_
      refine V.laldN (j := 0) hG hF (by decide +kernel) ho2 (by omega) (by decide) ?_
      refine V.run hF [(.iload 6, 2, .null)] (pc' := 1040) (L' := [some (.ref sb), some (.ref (A 0)), some (.ref (B 0)), some (.ref c), some (.int (nI (6 * k))), some (.int k1), some (.int y), none, none]) (st' := [.int y, .long (o1 0)]) (by decide +kernel) rfl ?_
      refine V.if_eq hF (off := 7) (tgt := 1047) (by decide +kernel) (by decide) (fun c4 => ?_) (fun c4 => ?_)
      · skip
        refine V.run hF [(.lconst 0, 1, .long 0), (.lcmp, 1, .null)] (pc' := 1049) (L' := [some (.ref sb), some (.ref (A 0)), some (.ref (B 0)), some (.ref c), some (.int (nI (6 * k))), some (.int k1), some (.int y), none, none]) (st' := [.int (lg_cmp (o1 0) 0)]) (by decide +kernel) rfl ?_
        rw [(lg_cmp_eq _ _).mpr ((jo c2).trans (if_pos c4))]
        refine V.if_eq hF (off := 5) (tgt := 1054) (by decide +kernel) (by decide) (fun c3 => ?_) (fun c3 => ?_)
        · skip
          refine V.run hF [(.goto 861, 3, .null), (.iinc 4 6, 3, .int 6), (.goto (-1895), 3, .null)] (pc' := 23) (L' := [some (.ref sb), some (.ref (A 0)), some (.ref (B 0)), some (.ref c), some (.int ((nI (6 * k)) + 6)), some (.int k1), some (.int y), none, none]) (st' := []) (by decide +kernel) rfl ?_
          rw [n6 k]
          exact ih _ hL _ _ _ _
        · skip
          exact absurd rfl c3
      · skip
        refine V.run hF [(.lconst 1, 1, .long 1), (.goto 4, 3, .null), (.lcmp, 1, .null)] (pc' := 1049) (L' := [some (.ref sb), some (.ref (A 0)), some (.ref (B 0)), some (.ref c), some (.int (nI (6 * k))), some (.int k1), some (.int y), none, none]) (st' := [.int (lg_cmp (o1 0) 1)]) (by decide +kernel) rfl ?_
        rw [(lg_cmp_eq _ _).mpr ((jo c2).trans (if_neg c4))]
        refine V.if_eq hF (off := 5) (tgt := 1054) (by decide +kernel) (by decide) (fun c3 => ?_) (fun c3 => ?_)
        · skip
          refine V.run hF [(.goto 861, 3, .null), (.iinc 4 6, 3, .int 6), (.goto (-1895), 3, .null)] (pc' := 23) (L' := [some (.ref sb), some (.ref (A 0)), some (.ref (B 0)), some (.ref c), some (.int ((nI (6 * k)) + 6)), some (.int k1), some (.int y), none, none]) (st' := []) (by decide +kernel) rfl ?_
          rw [n6 k]
          exact ih _ hL _ _ _ _
        · skip
          exact absurd rfl c3
  · skip
    exact absurd ek c1
set_option maxHeartbeats 8000000 in
theorem lc_debtorOf (hG : GOk G) (hN : GNc G) (hF : Ok G F RL cL_law 9 (some .boolean)) (hRm : fR F = { frames := 12, cells := 693274, slots := 7016281, locals := 448 }) (hX : SX G sb n xs) (hn : n ≤ 3072) (hi : 6 * k + 6 ≤ n) (hI : LI a b c k h) (ih : ∀ h', LI a b c (k + 1) h' → ∀ z5 z6 z7 z8, V G F Q kc ks 23 [some (.ref sb), some (.ref a), some (.ref b), some (.ref c), some (.int (nI (6 * (k + 1)))), z5, z6, z7, z8] [] h') : V G F Q (kc + 200) (ks + 1200) 1057 [some (.ref sb), some (.ref a), some (.ref b), some (.ref c), some (.int (nI (6 * k))), none, none, none, none] [] h := by
  obtain ⟨A, σ, P, r, B, x, u, md, hs, o, rfl, rfl, hC, hM, hR, hA, hy, ho, dAB, dAc, dBc⟩ := hI
  have k512 : k < 512 := by omega
  have hS : 999 * (k : Int) ≤ 1073741824 := by omega
  have hA1 : Am σ (999 * ((k + 1 : Nat) : Int)) := hA.up (by omega)
  have hy1 : gy σ ≤ 40 * (k + 1) := by omega
  refine V.run hF [(.aload_n 1, 1, .null), (.aload_n 0, 1, .null), (.iload 4, 2, .null), (.iconst 1, 1, .int (nI 1)), (.iadd, 1, .null)] (pc' := 1063) (L' := [some (.ref sb), some (.ref (A 0)), some (.ref (B 0)), some (.ref c), some (.int (nI (6 * k))), none, none, none, none]) (st' := [.int (nI (6 * k) + nI 1), .ref sb, .ref (A 0)]) (by decide +kernel) rfl ?_
  rw [nI_add (6 * k) 1]
  refine V.sld (j := 6 * k + 1) hF hX (by decide +kernel) (by omega) (by omega) ?_
  refine V.run hF [(.aload_n 0, 1, .null), (.iload 4, 2, .null), (.iconst 2, 1, .int (nI 2)), (.iadd, 1, .null)] (pc' := 1069) (L' := [some (.ref sb), some (.ref (A 0)), some (.ref (B 0)), some (.ref c), some (.int (nI (6 * k))), none, none, none, none]) (st' := [.int (nI (6 * k) + nI 2), .ref sb, .int (xs (6 * k + 1)), .ref (A 0)]) (by decide +kernel) rfl ?_
  rw [nI_add (6 * k) 2]
  refine V.sld (j := 6 * k + 2) hF hX (by decide +kernel) (by omega) (by omega) ?_
  refine V.run hF [(.aload_n 3, 1, .null)] (pc' := 1071) (L' := [some (.ref sb), some (.ref (A 0)), some (.ref (B 0)), some (.ref c), some (.int (nI (6 * k))), none, none, none, none]) (st' := [.ref c, .int (xs (6 * k + 2)), .int (xs (6 * k + 1)), .ref (A 0)]) (by decide +kernel) rfl ?_
  refine V.less (kc' := kc + 3) (ks' := ks + 18) (by omega) (by omega) ?_
  refine V.callSW (As := [.ref (A 0), .int (xs (6 * k + 1)), .int (xs (6 * k + 2)), .ref c]) (st := []) hG hF k_RL_163 (by decide +kernel) (n_debtorOf hG hN hC ho dAc (xs (6 * k + 1)) (xs (6 * k + 2))) rfl ⟨by rw [hRm]; decide, by rw [hRm]; decide⟩ (Nat.le_of_ble_eq_true rfl) rfl (fun v1 h1 hp => ?_) (fun E h9 hx => hx.elim)
  obtain ⟨k1, σ', A1, P1, r1, o1, rfl, s1, d1, hC1, ho1, e10, e11, e12⟩ := hp
  have hM1 := LI_B hM dAB dBc e12
  show V G F _ _ _ 1074 [some (.ref sb), some (.ref (A 0)), some (.ref (B 0)), some (.ref c), some (.int (nI (6 * k))), none, none, none, none] [.int k1] h1
  refine V.run hF [(.istore 5, 2, .null), (.aload_n 2, 1, .null), (.aload_n 0, 1, .null), (.iload 4, 2, .null), (.iconst 1, 1, .int (nI 1)), (.iadd, 1, .null)] (pc' := 1082) (L' := [some (.ref sb), some (.ref (A 0)), some (.ref (B 0)), some (.ref c), some (.int (nI (6 * k))), some (.int k1), none, none, none]) (st' := [.int (nI (6 * k) + nI 1), .ref sb, .ref (B 0)]) (by decide +kernel) rfl ?_
  rw [nI_add (6 * k) 1]
  refine V.sld (j := 6 * k + 1) hF hX (by decide +kernel) (by omega) (by omega) ?_
  refine V.run hF [(.aload_n 0, 1, .null), (.iload 4, 2, .null), (.iconst 2, 1, .int (nI 2)), (.iadd, 1, .null)] (pc' := 1088) (L' := [some (.ref sb), some (.ref (A 0)), some (.ref (B 0)), some (.ref c), some (.int (nI (6 * k))), some (.int k1), none, none, none]) (st' := [.int (nI (6 * k) + nI 2), .ref sb, .int (xs (6 * k + 1)), .ref (B 0)]) (by decide +kernel) rfl ?_
  rw [nI_add (6 * k) 2]
  refine V.sld (j := 6 * k + 2) hF hX (by decide +kernel) (by omega) (by omega) ?_
  refine V.callV (As := [.int (xs (6 * k + 1)), .int (xs (6 * k + 2))]) (st := []) hG hF k_RL_165 (by decide +kernel) (m_debtorOf hG hM1 hR (xs (6 * k + 1)) (xs (6 * k + 2))) hM1.2.1 rfl rfl ⟨by rw [hRm]; decide, by rw [hRm]; decide⟩ (Nat.le_of_ble_eq_true rfl) rfl (fun v2 h2 hp2 => ?_) (fun E h9 hx => hx.elim)
  obtain ⟨k2, y, σ2, u2, md2, hs2, rfl, s2, d2, hR2, hM2, hk2⟩ := hp2
  have ek : k2 = k1 := st1_u s2 s1
  obtain ⟨rfl, jo, jA, jy⟩ := joinR (R := RI k) ek d1 d2 (fun z => by
    exact ⟨hA1, hy1⟩) ⟨hA1, hy1⟩
  have hL := LI_next hM ho dAB dAc dBc hC1 ho1 e10 e11 hR2 hM2 hk2 jA jy
  have ho2 : h2 c = some (out1 o1) := hk2 c _ ho1 (fun j hj q => dBc j hj q.symm)
  show V G F _ _ _ 1092 [some (.ref sb), some (.ref (A 0)), some (.ref (B 0)), some (.ref c), some (.int (nI (6 * k))), some (.int k1), none, none, none] [.int y] h2
  refine V.run hF [(.istore 6, 2, .null), (.aload_n 2, 1, .null)] (pc' := 1095) (L' := [some (.ref sb), some (.ref (A 0)), some (.ref (B 0)), some (.ref c), some (.int (nI (6 * k))), some (.int k1), some (.int y), none, none]) (st' := [.ref (B 0)]) (by decide +kernel) rfl ?_
  refine V.callV (As := []) (st := []) hG hF k_RL_103 (by decide +kernel) (c_X4_thrown hG hM2) hM2.2.1 rfl rfl ⟨by rw [hRm]; decide, by rw [hRm]; decide⟩ (Nat.le_of_ble_eq_true rfl) rfl (fun v h_3 gp3 => ?_) (fun E h9 hx => hx.elim)
  obtain ⟨rfl, he_gp3⟩ := gp3
  rw [he_gp3]
  show V G F _ _ _ 1098 [some (.ref sb), some (.ref (A 0)), some (.ref (B 0)), some (.ref c), some (.int (nI (6 * k))), some (.int k1), some (.int y), none, none] [.int k2] h2
  refine V.run hF [(.iload 5, 2, .null)] (pc' := 1100) (L' := [some (.ref sb), some (.ref (A 0)), some (.ref (B 0)), some (.ref c), some (.int (nI (6 * k))), some (.int k1), some (.int y), none, none]) (st' := [.int k1, .int k2]) (by decide +kernel) rfl ?_
  refine V.icmp_eq hF (off := 5) (tgt := 1105) (by decide +kernel) (by decide) (fun c1 => ?_) (fun c1 => ?_)
  · skip
    refine V.run hF [(.iload 5, 2, .null)] (pc' := 1107) (L' := [some (.ref sb), some (.ref (A 0)), some (.ref (B 0)), some (.ref c), some (.int (nI (6 * k))), some (.int k1), some (.int y), none, none]) (st' := [.int k1]) (by decide +kernel) rfl ?_
    refine V.if_ne hF (off := 15) (tgt := 1122) (by decide +kernel) (by decide) (fun c2 => ?_) (fun c2 => ?_)
    · skip
      refine V.run hF [(.goto 793, 3, .null), (.iinc 4 6, 3, .int 6), (.goto (-1895), 3, .null)] (pc' := 23) (L' := [some (.ref sb), some (.ref (A 0)), some (.ref (B 0)), some (.ref c), some (.int ((nI (6 * k)) + 6)), some (.int k1), some (.int y), none, none]) (st' := []) (by decide +kernel) rfl ?_
      rw [n6 k]
      exact ih _ hL _ _ _ _
    · skip
      refine V.run hF [(.aload_n 3, 1, .null), (.iconst 0, 1, .int (nI 0))] (pc' := 1112) (L' := [some (.ref sb), some (.ref (A 0)), some (.ref (B 0)), some (.ref c), some (.int (nI (6 * k))), some (.int k1), some (.int y), none, none]) (st' := [.int (nI 0), .ref c]) (by decide +kernel) rfl ?_
      refine V.laldN (j := 0) hG hF (by decide +kernel) ho2 (by omega) (by decide) ?_
      refine V.run hF [(.iload 6, 2, .null), (.i2l, 1, .null), (.lcmp, 1, .null)] (pc' := 1117) (L' := [some (.ref sb), some (.ref (A 0)), some (.ref (B 0)), some (.ref c), some (.int (nI (6 * k))), some (.int k1), some (.int y), none, none]) (st' := [.int (lg_cmp (o1 0) (Int32.toInt64 y))]) (by decide +kernel) rfl ?_
      rw [(lg_cmp_eq _ _).mpr (jo c2)]
      refine V.if_eq hF (off := 5) (tgt := 1122) (by decide +kernel) (by decide) (fun c3 => ?_) (fun c3 => ?_)
      · skip
        refine V.run hF [(.goto 793, 3, .null), (.iinc 4 6, 3, .int 6), (.goto (-1895), 3, .null)] (pc' := 23) (L' := [some (.ref sb), some (.ref (A 0)), some (.ref (B 0)), some (.ref c), some (.int ((nI (6 * k)) + 6)), some (.int k1), some (.int y), none, none]) (st' := []) (by decide +kernel) rfl ?_
        rw [n6 k]
        exact ih _ hL _ _ _ _
      · skip
        exact absurd rfl c3
  · skip
    exact absurd ek c1
set_option maxHeartbeats 8000000 in
theorem lc_creditorOf (hG : GOk G) (hN : GNc G) (hF : Ok G F RL cL_law 9 (some .boolean)) (hRm : fR F = { frames := 12, cells := 693274, slots := 7016281, locals := 448 }) (hX : SX G sb n xs) (hn : n ≤ 3072) (hi : 6 * k + 6 ≤ n) (hI : LI a b c k h) (ih : ∀ h', LI a b c (k + 1) h' → ∀ z5 z6 z7 z8, V G F Q kc ks 23 [some (.ref sb), some (.ref a), some (.ref b), some (.ref c), some (.int (nI (6 * (k + 1)))), z5, z6, z7, z8] [] h') : V G F Q (kc + 200) (ks + 1200) 1125 [some (.ref sb), some (.ref a), some (.ref b), some (.ref c), some (.int (nI (6 * k))), none, none, none, none] [] h := by
  obtain ⟨A, σ, P, r, B, x, u, md, hs, o, rfl, rfl, hC, hM, hR, hA, hy, ho, dAB, dAc, dBc⟩ := hI
  have k512 : k < 512 := by omega
  have hS : 999 * (k : Int) ≤ 1073741824 := by omega
  have hA1 : Am σ (999 * ((k + 1 : Nat) : Int)) := hA.up (by omega)
  have hy1 : gy σ ≤ 40 * (k + 1) := by omega
  refine V.run hF [(.aload_n 1, 1, .null), (.aload_n 0, 1, .null), (.iload 4, 2, .null), (.iconst 1, 1, .int (nI 1)), (.iadd, 1, .null)] (pc' := 1131) (L' := [some (.ref sb), some (.ref (A 0)), some (.ref (B 0)), some (.ref c), some (.int (nI (6 * k))), none, none, none, none]) (st' := [.int (nI (6 * k) + nI 1), .ref sb, .ref (A 0)]) (by decide +kernel) rfl ?_
  rw [nI_add (6 * k) 1]
  refine V.sld (j := 6 * k + 1) hF hX (by decide +kernel) (by omega) (by omega) ?_
  refine V.run hF [(.aload_n 0, 1, .null), (.iload 4, 2, .null), (.iconst 2, 1, .int (nI 2)), (.iadd, 1, .null)] (pc' := 1137) (L' := [some (.ref sb), some (.ref (A 0)), some (.ref (B 0)), some (.ref c), some (.int (nI (6 * k))), none, none, none, none]) (st' := [.int (nI (6 * k) + nI 2), .ref sb, .int (xs (6 * k + 1)), .ref (A 0)]) (by decide +kernel) rfl ?_
  rw [nI_add (6 * k) 2]
  refine V.sld (j := 6 * k + 2) hF hX (by decide +kernel) (by omega) (by omega) ?_
  refine V.run hF [(.aload_n 3, 1, .null)] (pc' := 1139) (L' := [some (.ref sb), some (.ref (A 0)), some (.ref (B 0)), some (.ref c), some (.int (nI (6 * k))), none, none, none, none]) (st' := [.ref c, .int (xs (6 * k + 2)), .int (xs (6 * k + 1)), .ref (A 0)]) (by decide +kernel) rfl ?_
  refine V.less (kc' := kc + 3) (ks' := ks + 18) (by omega) (by omega) ?_
  refine V.callSW (As := [.ref (A 0), .int (xs (6 * k + 1)), .int (xs (6 * k + 2)), .ref c]) (st := []) hG hF k_RL_166 (by decide +kernel) (n_creditorOf hG hN hC ho dAc (xs (6 * k + 1)) (xs (6 * k + 2))) rfl ⟨by rw [hRm]; decide, by rw [hRm]; decide⟩ (Nat.le_of_ble_eq_true rfl) rfl (fun v1 h1 hp => ?_) (fun E h9 hx => hx.elim)
  obtain ⟨k1, σ', A1, P1, r1, o1, rfl, s1, d1, hC1, ho1, e10, e11, e12⟩ := hp
  have hM1 := LI_B hM dAB dBc e12
  show V G F _ _ _ 1142 [some (.ref sb), some (.ref (A 0)), some (.ref (B 0)), some (.ref c), some (.int (nI (6 * k))), none, none, none, none] [.int k1] h1
  refine V.run hF [(.istore 5, 2, .null), (.aload_n 2, 1, .null), (.aload_n 0, 1, .null), (.iload 4, 2, .null), (.iconst 1, 1, .int (nI 1)), (.iadd, 1, .null)] (pc' := 1150) (L' := [some (.ref sb), some (.ref (A 0)), some (.ref (B 0)), some (.ref c), some (.int (nI (6 * k))), some (.int k1), none, none, none]) (st' := [.int (nI (6 * k) + nI 1), .ref sb, .ref (B 0)]) (by decide +kernel) rfl ?_
  rw [nI_add (6 * k) 1]
  refine V.sld (j := 6 * k + 1) hF hX (by decide +kernel) (by omega) (by omega) ?_
  refine V.run hF [(.aload_n 0, 1, .null), (.iload 4, 2, .null), (.iconst 2, 1, .int (nI 2)), (.iadd, 1, .null)] (pc' := 1156) (L' := [some (.ref sb), some (.ref (A 0)), some (.ref (B 0)), some (.ref c), some (.int (nI (6 * k))), some (.int k1), none, none, none]) (st' := [.int (nI (6 * k) + nI 2), .ref sb, .int (xs (6 * k + 1)), .ref (B 0)]) (by decide +kernel) rfl ?_
  rw [nI_add (6 * k) 2]
  refine V.sld (j := 6 * k + 2) hF hX (by decide +kernel) (by omega) (by omega) ?_
  refine V.callV (As := [.int (xs (6 * k + 1)), .int (xs (6 * k + 2))]) (st := []) hG hF k_RL_168 (by decide +kernel) (m_creditorOf hG hM1 hR (xs (6 * k + 1)) (xs (6 * k + 2))) hM1.2.1 rfl rfl ⟨by rw [hRm]; decide, by rw [hRm]; decide⟩ (Nat.le_of_ble_eq_true rfl) rfl (fun v2 h2 hp2 => ?_) (fun E h9 hx => hx.elim)
  obtain ⟨k2, y, σ2, u2, md2, hs2, rfl, s2, d2, hR2, hM2, hk2⟩ := hp2
  have ek : k2 = k1 := st1_u s2 s1
  obtain ⟨rfl, jo, jA, jy⟩ := joinR (R := RI k) ek d1 d2 (fun z => by
    exact ⟨hA1, hy1⟩) ⟨hA1, hy1⟩
  have hL := LI_next hM ho dAB dAc dBc hC1 ho1 e10 e11 hR2 hM2 hk2 jA jy
  have ho2 : h2 c = some (out1 o1) := hk2 c _ ho1 (fun j hj q => dBc j hj q.symm)
  show V G F _ _ _ 1160 [some (.ref sb), some (.ref (A 0)), some (.ref (B 0)), some (.ref c), some (.int (nI (6 * k))), some (.int k1), none, none, none] [.int y] h2
  refine V.run hF [(.istore 6, 2, .null), (.aload_n 2, 1, .null)] (pc' := 1163) (L' := [some (.ref sb), some (.ref (A 0)), some (.ref (B 0)), some (.ref c), some (.int (nI (6 * k))), some (.int k1), some (.int y), none, none]) (st' := [.ref (B 0)]) (by decide +kernel) rfl ?_
  refine V.callV (As := []) (st := []) hG hF k_RL_103 (by decide +kernel) (c_X4_thrown hG hM2) hM2.2.1 rfl rfl ⟨by rw [hRm]; decide, by rw [hRm]; decide⟩ (Nat.le_of_ble_eq_true rfl) rfl (fun v h_3 gp3 => ?_) (fun E h9 hx => hx.elim)
  obtain ⟨rfl, he_gp3⟩ := gp3
  rw [he_gp3]
  show V G F _ _ _ 1166 [some (.ref sb), some (.ref (A 0)), some (.ref (B 0)), some (.ref c), some (.int (nI (6 * k))), some (.int k1), some (.int y), none, none] [.int k2] h2
  refine V.run hF [(.iload 5, 2, .null)] (pc' := 1168) (L' := [some (.ref sb), some (.ref (A 0)), some (.ref (B 0)), some (.ref c), some (.int (nI (6 * k))), some (.int k1), some (.int y), none, none]) (st' := [.int k1, .int k2]) (by decide +kernel) rfl ?_
  refine V.icmp_eq hF (off := 5) (tgt := 1173) (by decide +kernel) (by decide) (fun c1 => ?_) (fun c1 => ?_)
  · skip
    refine V.run hF [(.iload 5, 2, .null)] (pc' := 1175) (L' := [some (.ref sb), some (.ref (A 0)), some (.ref (B 0)), some (.ref c), some (.int (nI (6 * k))), some (.int k1), some (.int y), none, none]) (st' := [.int k1]) (by decide +kernel) rfl ?_
    refine V.if_ne hF (off := 15) (tgt := 1190) (by decide +kernel) (by decide) (fun c2 => ?_) (fun c2 => ?_)
    · skip
      refine V.run hF [(.goto 725, 3, .null), (.iinc 4 6, 3, .int 6), (.goto (-1895), 3, .null)] (pc' := 23) (L' := [some (.ref sb), some (.ref (A 0)), some (.ref (B 0)), some (.ref c), some (.int ((nI (6 * k)) + 6)), some (.int k1), some (.int y), none, none]) (st' := []) (by decide +kernel) rfl ?_
      rw [n6 k]
      exact ih _ hL _ _ _ _
    · skip
      refine V.run hF [(.aload_n 3, 1, .null), (.iconst 0, 1, .int (nI 0))] (pc' := 1180) (L' := [some (.ref sb), some (.ref (A 0)), some (.ref (B 0)), some (.ref c), some (.int (nI (6 * k))), some (.int k1), some (.int y), none, none]) (st' := [.int (nI 0), .ref c]) (by decide +kernel) rfl ?_
      refine V.laldN (j := 0) hG hF (by decide +kernel) ho2 (by omega) (by decide) ?_
      refine V.run hF [(.iload 6, 2, .null), (.i2l, 1, .null), (.lcmp, 1, .null)] (pc' := 1185) (L' := [some (.ref sb), some (.ref (A 0)), some (.ref (B 0)), some (.ref c), some (.int (nI (6 * k))), some (.int k1), some (.int y), none, none]) (st' := [.int (lg_cmp (o1 0) (Int32.toInt64 y))]) (by decide +kernel) rfl ?_
      rw [(lg_cmp_eq _ _).mpr (jo c2)]
      refine V.if_eq hF (off := 5) (tgt := 1190) (by decide +kernel) (by decide) (fun c3 => ?_) (fun c3 => ?_)
      · skip
        refine V.run hF [(.goto 725, 3, .null), (.iinc 4 6, 3, .int 6), (.goto (-1895), 3, .null)] (pc' := 23) (L' := [some (.ref sb), some (.ref (A 0)), some (.ref (B 0)), some (.ref c), some (.int ((nI (6 * k)) + 6)), some (.int k1), some (.int y), none, none]) (st' := []) (by decide +kernel) rfl ?_
        rw [n6 k]
        exact ih _ hL _ _ _ _
      · skip
        exact absurd rfl c3
  · skip
    exact absurd ek c1
set_option maxHeartbeats 8000000 in
theorem lc_amountOf (hG : GOk G) (hN : GNc G) (hF : Ok G F RL cL_law 9 (some .boolean)) (hRm : fR F = { frames := 12, cells := 693274, slots := 7016281, locals := 448 }) (hX : SX G sb n xs) (hn : n ≤ 3072) (hi : 6 * k + 6 ≤ n) (hI : LI a b c k h) (ih : ∀ h', LI a b c (k + 1) h' → ∀ z5 z6 z7 z8, V G F Q kc ks 23 [some (.ref sb), some (.ref a), some (.ref b), some (.ref c), some (.int (nI (6 * (k + 1)))), z5, z6, z7, z8] [] h') : V G F Q (kc + 200) (ks + 1200) 1193 [some (.ref sb), some (.ref a), some (.ref b), some (.ref c), some (.int (nI (6 * k))), none, none, none, none] [] h := by
  obtain ⟨A, σ, P, r, B, x, u, md, hs, o, rfl, rfl, hC, hM, hR, hA, hy, ho, dAB, dAc, dBc⟩ := hI
  have k512 : k < 512 := by omega
  have hS : 999 * (k : Int) ≤ 1073741824 := by omega
  have hA1 : Am σ (999 * ((k + 1 : Nat) : Int)) := hA.up (by omega)
  have hy1 : gy σ ≤ 40 * (k + 1) := by omega
  refine V.run hF [(.aload_n 1, 1, .null), (.aload_n 0, 1, .null), (.iload 4, 2, .null), (.iconst 1, 1, .int (nI 1)), (.iadd, 1, .null)] (pc' := 1199) (L' := [some (.ref sb), some (.ref (A 0)), some (.ref (B 0)), some (.ref c), some (.int (nI (6 * k))), none, none, none, none]) (st' := [.int (nI (6 * k) + nI 1), .ref sb, .ref (A 0)]) (by decide +kernel) rfl ?_
  rw [nI_add (6 * k) 1]
  refine V.sld (j := 6 * k + 1) hF hX (by decide +kernel) (by omega) (by omega) ?_
  refine V.run hF [(.aload_n 0, 1, .null), (.iload 4, 2, .null), (.iconst 2, 1, .int (nI 2)), (.iadd, 1, .null)] (pc' := 1205) (L' := [some (.ref sb), some (.ref (A 0)), some (.ref (B 0)), some (.ref c), some (.int (nI (6 * k))), none, none, none, none]) (st' := [.int (nI (6 * k) + nI 2), .ref sb, .int (xs (6 * k + 1)), .ref (A 0)]) (by decide +kernel) rfl ?_
  rw [nI_add (6 * k) 2]
  refine V.sld (j := 6 * k + 2) hF hX (by decide +kernel) (by omega) (by omega) ?_
  refine V.run hF [(.aload_n 3, 1, .null)] (pc' := 1207) (L' := [some (.ref sb), some (.ref (A 0)), some (.ref (B 0)), some (.ref c), some (.int (nI (6 * k))), none, none, none, none]) (st' := [.ref c, .int (xs (6 * k + 2)), .int (xs (6 * k + 1)), .ref (A 0)]) (by decide +kernel) rfl ?_
  refine V.less (kc' := kc + 3) (ks' := ks + 18) (by omega) (by omega) ?_
  refine V.callSW (As := [.ref (A 0), .int (xs (6 * k + 1)), .int (xs (6 * k + 2)), .ref c]) (st := []) hG hF k_RL_169 (by decide +kernel) (n_amountOf hG hN hC ho dAc (xs (6 * k + 1)) (xs (6 * k + 2))) rfl ⟨by rw [hRm]; decide, by rw [hRm]; decide⟩ (Nat.le_of_ble_eq_true rfl) rfl (fun v1 h1 hp => ?_) (fun E h9 hx => hx.elim)
  obtain ⟨k1, σ', A1, P1, r1, o1, rfl, s1, d1, hC1, ho1, e10, e11, e12⟩ := hp
  have hM1 := LI_B hM dAB dBc e12
  show V G F _ _ _ 1210 [some (.ref sb), some (.ref (A 0)), some (.ref (B 0)), some (.ref c), some (.int (nI (6 * k))), none, none, none, none] [.int k1] h1
  refine V.run hF [(.istore 5, 2, .null), (.aload_n 2, 1, .null), (.aload_n 0, 1, .null), (.iload 4, 2, .null), (.iconst 1, 1, .int (nI 1)), (.iadd, 1, .null)] (pc' := 1218) (L' := [some (.ref sb), some (.ref (A 0)), some (.ref (B 0)), some (.ref c), some (.int (nI (6 * k))), some (.int k1), none, none, none]) (st' := [.int (nI (6 * k) + nI 1), .ref sb, .ref (B 0)]) (by decide +kernel) rfl ?_
  rw [nI_add (6 * k) 1]
  refine V.sld (j := 6 * k + 1) hF hX (by decide +kernel) (by omega) (by omega) ?_
  refine V.run hF [(.aload_n 0, 1, .null), (.iload 4, 2, .null), (.iconst 2, 1, .int (nI 2)), (.iadd, 1, .null)] (pc' := 1224) (L' := [some (.ref sb), some (.ref (A 0)), some (.ref (B 0)), some (.ref c), some (.int (nI (6 * k))), some (.int k1), none, none, none]) (st' := [.int (nI (6 * k) + nI 2), .ref sb, .int (xs (6 * k + 1)), .ref (B 0)]) (by decide +kernel) rfl ?_
  rw [nI_add (6 * k) 2]
  refine V.sld (j := 6 * k + 2) hF hX (by decide +kernel) (by omega) (by omega) ?_
  refine V.callV (As := [.int (xs (6 * k + 1)), .int (xs (6 * k + 2))]) (st := []) hG hF k_RL_171 (by decide +kernel) (m_amountOf hG hM1 hR (xs (6 * k + 1)) (xs (6 * k + 2))) hM1.2.1 rfl rfl ⟨by rw [hRm]; decide, by rw [hRm]; decide⟩ (Nat.le_of_ble_eq_true rfl) rfl (fun v2 h2 hp2 => ?_) (fun E h9 hx => hx.elim)
  obtain ⟨k2, y, σ2, u2, md2, hs2, rfl, s2, d2, hR2, hM2, hk2⟩ := hp2
  have ek : k2 = k1 := st1_u s2 s1
  obtain ⟨rfl, jo, jA, jy⟩ := joinR (R := RI k) ek d1 d2 (fun z => by
    exact ⟨hA1, hy1⟩) ⟨hA1, hy1⟩
  have hL := LI_next hM ho dAB dAc dBc hC1 ho1 e10 e11 hR2 hM2 hk2 jA jy
  have ho2 : h2 c = some (out1 o1) := hk2 c _ ho1 (fun j hj q => dBc j hj q.symm)
  show V G F _ _ _ 1228 [some (.ref sb), some (.ref (A 0)), some (.ref (B 0)), some (.ref c), some (.int (nI (6 * k))), some (.int k1), none, none, none] [.int y] h2
  refine V.run hF [(.istore 6, 2, .null), (.aload_n 2, 1, .null)] (pc' := 1231) (L' := [some (.ref sb), some (.ref (A 0)), some (.ref (B 0)), some (.ref c), some (.int (nI (6 * k))), some (.int k1), some (.int y), none, none]) (st' := [.ref (B 0)]) (by decide +kernel) rfl ?_
  refine V.callV (As := []) (st := []) hG hF k_RL_103 (by decide +kernel) (c_X4_thrown hG hM2) hM2.2.1 rfl rfl ⟨by rw [hRm]; decide, by rw [hRm]; decide⟩ (Nat.le_of_ble_eq_true rfl) rfl (fun v h_3 gp3 => ?_) (fun E h9 hx => hx.elim)
  obtain ⟨rfl, he_gp3⟩ := gp3
  rw [he_gp3]
  show V G F _ _ _ 1234 [some (.ref sb), some (.ref (A 0)), some (.ref (B 0)), some (.ref c), some (.int (nI (6 * k))), some (.int k1), some (.int y), none, none] [.int k2] h2
  refine V.run hF [(.iload 5, 2, .null)] (pc' := 1236) (L' := [some (.ref sb), some (.ref (A 0)), some (.ref (B 0)), some (.ref c), some (.int (nI (6 * k))), some (.int k1), some (.int y), none, none]) (st' := [.int k1, .int k2]) (by decide +kernel) rfl ?_
  refine V.icmp_eq hF (off := 5) (tgt := 1241) (by decide +kernel) (by decide) (fun c1 => ?_) (fun c1 => ?_)
  · skip
    refine V.run hF [(.iload 5, 2, .null)] (pc' := 1243) (L' := [some (.ref sb), some (.ref (A 0)), some (.ref (B 0)), some (.ref c), some (.int (nI (6 * k))), some (.int k1), some (.int y), none, none]) (st' := [.int k1]) (by decide +kernel) rfl ?_
    refine V.if_ne hF (off := 15) (tgt := 1258) (by decide +kernel) (by decide) (fun c2 => ?_) (fun c2 => ?_)
    · skip
      refine V.run hF [(.goto 657, 3, .null), (.iinc 4 6, 3, .int 6), (.goto (-1895), 3, .null)] (pc' := 23) (L' := [some (.ref sb), some (.ref (A 0)), some (.ref (B 0)), some (.ref c), some (.int ((nI (6 * k)) + 6)), some (.int k1), some (.int y), none, none]) (st' := []) (by decide +kernel) rfl ?_
      rw [n6 k]
      exact ih _ hL _ _ _ _
    · skip
      refine V.run hF [(.aload_n 3, 1, .null), (.iconst 0, 1, .int (nI 0))] (pc' := 1248) (L' := [some (.ref sb), some (.ref (A 0)), some (.ref (B 0)), some (.ref c), some (.int (nI (6 * k))), some (.int k1), some (.int y), none, none]) (st' := [.int (nI 0), .ref c]) (by decide +kernel) rfl ?_
      refine V.laldN (j := 0) hG hF (by decide +kernel) ho2 (by omega) (by decide) ?_
      refine V.run hF [(.iload 6, 2, .null), (.i2l, 1, .null), (.lcmp, 1, .null)] (pc' := 1253) (L' := [some (.ref sb), some (.ref (A 0)), some (.ref (B 0)), some (.ref c), some (.int (nI (6 * k))), some (.int k1), some (.int y), none, none]) (st' := [.int (lg_cmp (o1 0) (Int32.toInt64 y))]) (by decide +kernel) rfl ?_
      rw [(lg_cmp_eq _ _).mpr (jo c2)]
      refine V.if_eq hF (off := 5) (tgt := 1258) (by decide +kernel) (by decide) (fun c3 => ?_) (fun c3 => ?_)
      · skip
        refine V.run hF [(.goto 657, 3, .null), (.iinc 4 6, 3, .int 6), (.goto (-1895), 3, .null)] (pc' := 23) (L' := [some (.ref sb), some (.ref (A 0)), some (.ref (B 0)), some (.ref c), some (.int ((nI (6 * k)) + 6)), some (.int k1), some (.int y), none, none]) (st' := []) (by decide +kernel) rfl ?_
        rw [n6 k]
        exact ih _ hL _ _ _ _
      · skip
        exact absurd rfl c3
  · skip
    exact absurd ek c1
set_option maxHeartbeats 8000000 in
theorem lc_isWitnessed (hG : GOk G) (hN : GNc G) (hF : Ok G F RL cL_law 9 (some .boolean)) (hRm : fR F = { frames := 12, cells := 693274, slots := 7016281, locals := 448 }) (hX : SX G sb n xs) (hn : n ≤ 3072) (hi : 6 * k + 6 ≤ n) (hI : LI a b c k h) (ih : ∀ h', LI a b c (k + 1) h' → ∀ z5 z6 z7 z8, V G F Q kc ks 23 [some (.ref sb), some (.ref a), some (.ref b), some (.ref c), some (.int (nI (6 * (k + 1)))), z5, z6, z7, z8] [] h') : V G F Q (kc + 200) (ks + 1200) 1261 [some (.ref sb), some (.ref a), some (.ref b), some (.ref c), some (.int (nI (6 * k))), none, none, none, none] [] h := by
  obtain ⟨A, σ, P, r, B, x, u, md, hs, o, rfl, rfl, hC, hM, hR, hA, hy, ho, dAB, dAc, dBc⟩ := hI
  have k512 : k < 512 := by omega
  have hS : 999 * (k : Int) ≤ 1073741824 := by omega
  have hA1 : Am σ (999 * ((k + 1 : Nat) : Int)) := hA.up (by omega)
  have hy1 : gy σ ≤ 40 * (k + 1) := by omega
  refine V.run hF [(.aload_n 1, 1, .null), (.aload_n 0, 1, .null), (.iload 4, 2, .null), (.iconst 1, 1, .int (nI 1)), (.iadd, 1, .null)] (pc' := 1267) (L' := [some (.ref sb), some (.ref (A 0)), some (.ref (B 0)), some (.ref c), some (.int (nI (6 * k))), none, none, none, none]) (st' := [.int (nI (6 * k) + nI 1), .ref sb, .ref (A 0)]) (by decide +kernel) rfl ?_
  rw [nI_add (6 * k) 1]
  refine V.sld (j := 6 * k + 1) hF hX (by decide +kernel) (by omega) (by omega) ?_
  refine V.run hF [(.aload_n 0, 1, .null), (.iload 4, 2, .null), (.iconst 2, 1, .int (nI 2)), (.iadd, 1, .null)] (pc' := 1273) (L' := [some (.ref sb), some (.ref (A 0)), some (.ref (B 0)), some (.ref c), some (.int (nI (6 * k))), none, none, none, none]) (st' := [.int (nI (6 * k) + nI 2), .ref sb, .int (xs (6 * k + 1)), .ref (A 0)]) (by decide +kernel) rfl ?_
  rw [nI_add (6 * k) 2]
  refine V.sld (j := 6 * k + 2) hF hX (by decide +kernel) (by omega) (by omega) ?_
  refine V.run hF [(.aload_n 3, 1, .null)] (pc' := 1275) (L' := [some (.ref sb), some (.ref (A 0)), some (.ref (B 0)), some (.ref c), some (.int (nI (6 * k))), none, none, none, none]) (st' := [.ref c, .int (xs (6 * k + 2)), .int (xs (6 * k + 1)), .ref (A 0)]) (by decide +kernel) rfl ?_
  refine V.less (kc' := kc + 3) (ks' := ks + 18) (by omega) (by omega) ?_
  refine V.callSW (As := [.ref (A 0), .int (xs (6 * k + 1)), .int (xs (6 * k + 2)), .ref c]) (st := []) hG hF k_RL_172 (by decide +kernel) (n_isWitnessed hG hN hC ho dAc hR (xs (6 * k + 1)) (xs (6 * k + 2))) rfl ⟨by rw [hRm]; decide, by rw [hRm]; decide⟩ (Nat.le_of_ble_eq_true rfl) rfl (fun v1 h1 hp => ?_) (fun E h9 hx => hx.elim)
  obtain ⟨k1, σ', A1, P1, r1, o1, rfl, s1, d1, hC1, ho1, e10, e11, e12⟩ := hp
  have hM1 := LI_B hM dAB dBc e12
  show V G F _ _ _ 1278 [some (.ref sb), some (.ref (A 0)), some (.ref (B 0)), some (.ref c), some (.int (nI (6 * k))), none, none, none, none] [.int k1] h1
  refine V.run hF [(.istore 5, 2, .null), (.aload_n 2, 1, .null), (.aload_n 0, 1, .null), (.iload 4, 2, .null), (.iconst 1, 1, .int (nI 1)), (.iadd, 1, .null)] (pc' := 1286) (L' := [some (.ref sb), some (.ref (A 0)), some (.ref (B 0)), some (.ref c), some (.int (nI (6 * k))), some (.int k1), none, none, none]) (st' := [.int (nI (6 * k) + nI 1), .ref sb, .ref (B 0)]) (by decide +kernel) rfl ?_
  rw [nI_add (6 * k) 1]
  refine V.sld (j := 6 * k + 1) hF hX (by decide +kernel) (by omega) (by omega) ?_
  refine V.run hF [(.aload_n 0, 1, .null), (.iload 4, 2, .null), (.iconst 2, 1, .int (nI 2)), (.iadd, 1, .null)] (pc' := 1292) (L' := [some (.ref sb), some (.ref (A 0)), some (.ref (B 0)), some (.ref c), some (.int (nI (6 * k))), some (.int k1), none, none, none]) (st' := [.int (nI (6 * k) + nI 2), .ref sb, .int (xs (6 * k + 1)), .ref (B 0)]) (by decide +kernel) rfl ?_
  rw [nI_add (6 * k) 2]
  refine V.sld (j := 6 * k + 2) hF hX (by decide +kernel) (by omega) (by omega) ?_
  refine V.callV (As := [.int (xs (6 * k + 1)), .int (xs (6 * k + 2))]) (st := []) hG hF k_RL_174 (by decide +kernel) (m_isWitnessed hG hM1 hR (xs (6 * k + 1)) (xs (6 * k + 2))) hM1.2.1 rfl rfl ⟨by rw [hRm]; decide, by rw [hRm]; decide⟩ (Nat.le_of_ble_eq_true rfl) rfl (fun v2 h2 hp2 => ?_) (fun E h9 hx => hx.elim)
  obtain ⟨k2, y, σ2, u2, md2, hs2, rfl, s2, d2, hR2, hM2, hk2⟩ := hp2
  have ek : k2 = k1 := st1_u s2 s1
  obtain ⟨rfl, jo, jA, jy⟩ := joinR (R := RI k) ek d1 d2 (fun z => by
    exact ⟨hA1, hy1⟩) ⟨hA1, hy1⟩
  have hL := LI_next hM ho dAB dAc dBc hC1 ho1 e10 e11 hR2 hM2 hk2 jA jy
  have ho2 : h2 c = some (out1 o1) := hk2 c _ ho1 (fun j hj q => dBc j hj q.symm)
  show V G F _ _ _ 1296 [some (.ref sb), some (.ref (A 0)), some (.ref (B 0)), some (.ref c), some (.int (nI (6 * k))), some (.int k1), none, none, none] [.int y] h2
  refine V.run hF [(.istore 6, 2, .null), (.aload_n 2, 1, .null)] (pc' := 1299) (L' := [some (.ref sb), some (.ref (A 0)), some (.ref (B 0)), some (.ref c), some (.int (nI (6 * k))), some (.int k1), some (.int y), none, none]) (st' := [.ref (B 0)]) (by decide +kernel) rfl ?_
  refine V.callV (As := []) (st := []) hG hF k_RL_103 (by decide +kernel) (c_X4_thrown hG hM2) hM2.2.1 rfl rfl ⟨by rw [hRm]; decide, by rw [hRm]; decide⟩ (Nat.le_of_ble_eq_true rfl) rfl (fun v h_3 gp3 => ?_) (fun E h9 hx => hx.elim)
  obtain ⟨rfl, he_gp3⟩ := gp3
  rw [he_gp3]
  show V G F _ _ _ 1302 [some (.ref sb), some (.ref (A 0)), some (.ref (B 0)), some (.ref c), some (.int (nI (6 * k))), some (.int k1), some (.int y), none, none] [.int k2] h2
  refine V.run hF [(.iload 5, 2, .null)] (pc' := 1304) (L' := [some (.ref sb), some (.ref (A 0)), some (.ref (B 0)), some (.ref c), some (.int (nI (6 * k))), some (.int k1), some (.int y), none, none]) (st' := [.int k1, .int k2]) (by decide +kernel) rfl ?_
  refine V.icmp_eq hF (off := 5) (tgt := 1309) (by decide +kernel) (by decide) (fun c1 => ?_) (fun c1 => ?_)
  · skip
    refine V.run hF [(.iload 5, 2, .null)] (pc' := 1311) (L' := [some (.ref sb), some (.ref (A 0)), some (.ref (B 0)), some (.ref c), some (.int (nI (6 * k))), some (.int k1), some (.int y), none, none]) (st' := [.int k1]) (by decide +kernel) rfl ?_
    refine V.if_ne hF (off := 22) (tgt := 1333) (by decide +kernel) (by decide) (fun c2 => ?_) (fun c2 => ?_)
    · skip
      refine V.run hF [(.goto 582, 3, .null), (.iinc 4 6, 3, .int 6), (.goto (-1895), 3, .null)] (pc' := 23) (L' := [some (.ref sb), some (.ref (A 0)), some (.ref (B 0)), some (.ref c), some (.int ((nI (6 * k)) + 6)), some (.int k1), some (.int y), none, none]) (st' := []) (by decide +kernel) rfl ?_
      rw [n6 k]
      exact ih _ hL _ _ _ _
    · skip
      refine V.run hF [(.aload_n 3, 1, .null), (.iconst 0, 1, .int (nI 0))] (pc' := 1316) (L' := [some (.ref sb), some (.ref (A 0)), some (.ref (B 0)), some (.ref c), some (.int (nI (6 * k))), some (.int k1), some (.int y), none, none]) (st' := [.int (nI 0), .ref c]) (by decide +kernel) rfl ?_
      refine V.laldN (j := 0) hG hF (by decide +kernel) ho2 (by omega) (by decide) ?_
      refine V.run hF [(.iload 6, 2, .null)] (pc' := 1319) (L' := [some (.ref sb), some (.ref (A 0)), some (.ref (B 0)), some (.ref c), some (.int (nI (6 * k))), some (.int k1), some (.int y), none, none]) (st' := [.int y, .long (o1 0)]) (by decide +kernel) rfl ?_
      refine V.if_eq hF (off := 7) (tgt := 1326) (by decide +kernel) (by decide) (fun c4 => ?_) (fun c4 => ?_)
      · skip
        refine V.run hF [(.lconst 0, 1, .long 0), (.lcmp, 1, .null)] (pc' := 1328) (L' := [some (.ref sb), some (.ref (A 0)), some (.ref (B 0)), some (.ref c), some (.int (nI (6 * k))), some (.int k1), some (.int y), none, none]) (st' := [.int (lg_cmp (o1 0) 0)]) (by decide +kernel) rfl ?_
        rw [(lg_cmp_eq _ _).mpr ((jo c2).trans (if_pos c4))]
        refine V.if_eq hF (off := 5) (tgt := 1333) (by decide +kernel) (by decide) (fun c3 => ?_) (fun c3 => ?_)
        · skip
          refine V.run hF [(.goto 582, 3, .null), (.iinc 4 6, 3, .int 6), (.goto (-1895), 3, .null)] (pc' := 23) (L' := [some (.ref sb), some (.ref (A 0)), some (.ref (B 0)), some (.ref c), some (.int ((nI (6 * k)) + 6)), some (.int k1), some (.int y), none, none]) (st' := []) (by decide +kernel) rfl ?_
          rw [n6 k]
          exact ih _ hL _ _ _ _
        · skip
          exact absurd rfl c3
      · skip
        refine V.run hF [(.lconst 1, 1, .long 1), (.goto 4, 3, .null), (.lcmp, 1, .null)] (pc' := 1328) (L' := [some (.ref sb), some (.ref (A 0)), some (.ref (B 0)), some (.ref c), some (.int (nI (6 * k))), some (.int k1), some (.int y), none, none]) (st' := [.int (lg_cmp (o1 0) 1)]) (by decide +kernel) rfl ?_
        rw [(lg_cmp_eq _ _).mpr ((jo c2).trans (if_neg c4))]
        refine V.if_eq hF (off := 5) (tgt := 1333) (by decide +kernel) (by decide) (fun c3 => ?_) (fun c3 => ?_)
        · skip
          refine V.run hF [(.goto 582, 3, .null), (.iinc 4 6, 3, .int 6), (.goto (-1895), 3, .null)] (pc' := 23) (L' := [some (.ref sb), some (.ref (A 0)), some (.ref (B 0)), some (.ref c), some (.int ((nI (6 * k)) + 6)), some (.int k1), some (.int y), none, none]) (st' := []) (by decide +kernel) rfl ?_
          rw [n6 k]
          exact ih _ hL _ _ _ _
        · skip
          exact absurd rfl c3
  · skip
    exact absurd ek c1
set_option maxHeartbeats 8000000 in
theorem lc_has (hG : GOk G) (hN : GNc G) (hF : Ok G F RL cL_law 9 (some .boolean)) (hRm : fR F = { frames := 12, cells := 693274, slots := 7016281, locals := 448 }) (hX : SX G sb n xs) (hn : n ≤ 3072) (hi : 6 * k + 6 ≤ n) (hI : LI a b c k h) (ih : ∀ h', LI a b c (k + 1) h' → ∀ z5 z6 z7 z8, V G F Q kc ks 23 [some (.ref sb), some (.ref a), some (.ref b), some (.ref c), some (.int (nI (6 * (k + 1)))), z5, z6, z7, z8] [] h') : V G F Q (kc + 200) (ks + 1200) 1336 [some (.ref sb), some (.ref a), some (.ref b), some (.ref c), some (.int (nI (6 * k))), none, none, none, none] [] h := by
  obtain ⟨A, σ, P, r, B, x, u, md, hs, o, rfl, rfl, hC, hM, hR, hA, hy, ho, dAB, dAc, dBc⟩ := hI
  have k512 : k < 512 := by omega
  have hS : 999 * (k : Int) ≤ 1073741824 := by omega
  have hA1 : Am σ (999 * ((k + 1 : Nat) : Int)) := hA.up (by omega)
  have hy1 : gy σ ≤ 40 * (k + 1) := by omega
  refine V.run hF [(.aload_n 1, 1, .null), (.aload_n 0, 1, .null), (.iload 4, 2, .null), (.iconst 1, 1, .int (nI 1)), (.iadd, 1, .null)] (pc' := 1342) (L' := [some (.ref sb), some (.ref (A 0)), some (.ref (B 0)), some (.ref c), some (.int (nI (6 * k))), none, none, none, none]) (st' := [.int (nI (6 * k) + nI 1), .ref sb, .ref (A 0)]) (by decide +kernel) rfl ?_
  rw [nI_add (6 * k) 1]
  refine V.sld (j := 6 * k + 1) hF hX (by decide +kernel) (by omega) (by omega) ?_
  refine V.run hF [(.aload_n 3, 1, .null)] (pc' := 1344) (L' := [some (.ref sb), some (.ref (A 0)), some (.ref (B 0)), some (.ref c), some (.int (nI (6 * k))), none, none, none, none]) (st' := [.ref c, .int (xs (6 * k + 1)), .ref (A 0)]) (by decide +kernel) rfl ?_
  refine V.less (kc' := kc + 1) (ks' := ks + 6) (by omega) (by omega) ?_
  refine V.callSW (As := [.ref (A 0), .int (xs (6 * k + 1)), .ref c]) (st := []) hG hF k_RL_175 (by decide +kernel) (n_has hG hN hC ho dAc (xs (6 * k + 1))) rfl ⟨by rw [hRm]; decide, by rw [hRm]; decide⟩ (Nat.le_of_ble_eq_true rfl) rfl (fun v1 h1 hp => ?_) (fun E h9 hx => hx.elim)
  obtain ⟨k1, σ', A1, P1, r1, o1, rfl, s1, d1, hC1, ho1, e10, e11, e12⟩ := hp
  have hM1 := LI_B hM dAB dBc e12
  show V G F _ _ _ 1347 [some (.ref sb), some (.ref (A 0)), some (.ref (B 0)), some (.ref c), some (.int (nI (6 * k))), none, none, none, none] [.int k1] h1
  refine V.run hF [(.istore 5, 2, .null), (.aload_n 2, 1, .null), (.aload_n 0, 1, .null), (.iload 4, 2, .null), (.iconst 1, 1, .int (nI 1)), (.iadd, 1, .null)] (pc' := 1355) (L' := [some (.ref sb), some (.ref (A 0)), some (.ref (B 0)), some (.ref c), some (.int (nI (6 * k))), some (.int k1), none, none, none]) (st' := [.int (nI (6 * k) + nI 1), .ref sb, .ref (B 0)]) (by decide +kernel) rfl ?_
  rw [nI_add (6 * k) 1]
  refine V.sld (j := 6 * k + 1) hF hX (by decide +kernel) (by omega) (by omega) ?_
  refine V.callV (As := [.int (xs (6 * k + 1))]) (st := []) hG hF k_RL_177 (by decide +kernel) (m_has hG hM1 hR (xs (6 * k + 1))) hM1.2.1 rfl rfl ⟨by rw [hRm]; decide, by rw [hRm]; decide⟩ (Nat.le_of_ble_eq_true rfl) rfl (fun v2 h2 hp2 => ?_) (fun E h9 hx => hx.elim)
  obtain ⟨k2, y, σ2, u2, md2, hs2, rfl, s2, d2, hR2, hM2, hk2⟩ := hp2
  have ek : k2 = k1 := st1_u s2 s1
  obtain ⟨rfl, jo, jA, jy⟩ := joinR (R := RI k) ek d1 d2 (fun z => by
    exact ⟨hA1, hy1⟩) ⟨hA1, hy1⟩
  have hL := LI_next hM ho dAB dAc dBc hC1 ho1 e10 e11 hR2 hM2 hk2 jA jy
  have ho2 : h2 c = some (out1 o1) := hk2 c _ ho1 (fun j hj q => dBc j hj q.symm)
  show V G F _ _ _ 1359 [some (.ref sb), some (.ref (A 0)), some (.ref (B 0)), some (.ref c), some (.int (nI (6 * k))), some (.int k1), none, none, none] [.int y] h2
  refine V.run hF [(.istore 6, 2, .null), (.aload_n 2, 1, .null)] (pc' := 1362) (L' := [some (.ref sb), some (.ref (A 0)), some (.ref (B 0)), some (.ref c), some (.int (nI (6 * k))), some (.int k1), some (.int y), none, none]) (st' := [.ref (B 0)]) (by decide +kernel) rfl ?_
  refine V.callV (As := []) (st := []) hG hF k_RL_103 (by decide +kernel) (c_X4_thrown hG hM2) hM2.2.1 rfl rfl ⟨by rw [hRm]; decide, by rw [hRm]; decide⟩ (Nat.le_of_ble_eq_true rfl) rfl (fun v h_3 gp3 => ?_) (fun E h9 hx => hx.elim)
  obtain ⟨rfl, he_gp3⟩ := gp3
  rw [he_gp3]
  show V G F _ _ _ 1365 [some (.ref sb), some (.ref (A 0)), some (.ref (B 0)), some (.ref c), some (.int (nI (6 * k))), some (.int k1), some (.int y), none, none] [.int k2] h2
  refine V.run hF [(.iload 5, 2, .null)] (pc' := 1367) (L' := [some (.ref sb), some (.ref (A 0)), some (.ref (B 0)), some (.ref c), some (.int (nI (6 * k))), some (.int k1), some (.int y), none, none]) (st' := [.int k1, .int k2]) (by decide +kernel) rfl ?_
  refine V.icmp_eq hF (off := 5) (tgt := 1372) (by decide +kernel) (by decide) (fun c1 => ?_) (fun c1 => ?_)
  · skip
    refine V.run hF [(.iload 5, 2, .null)] (pc' := 1374) (L' := [some (.ref sb), some (.ref (A 0)), some (.ref (B 0)), some (.ref c), some (.int (nI (6 * k))), some (.int k1), some (.int y), none, none]) (st' := [.int k1]) (by decide +kernel) rfl ?_
    refine V.if_ne hF (off := 15) (tgt := 1389) (by decide +kernel) (by decide) (fun c2 => ?_) (fun c2 => ?_)
    · skip
      refine V.run hF [(.goto 526, 3, .null), (.iinc 4 6, 3, .int 6), (.goto (-1895), 3, .null)] (pc' := 23) (L' := [some (.ref sb), some (.ref (A 0)), some (.ref (B 0)), some (.ref c), some (.int ((nI (6 * k)) + 6)), some (.int k1), some (.int y), none, none]) (st' := []) (by decide +kernel) rfl ?_
      rw [n6 k]
      exact ih _ hL _ _ _ _
    · skip
      refine V.run hF [(.aload_n 3, 1, .null), (.iconst 0, 1, .int (nI 0))] (pc' := 1379) (L' := [some (.ref sb), some (.ref (A 0)), some (.ref (B 0)), some (.ref c), some (.int (nI (6 * k))), some (.int k1), some (.int y), none, none]) (st' := [.int (nI 0), .ref c]) (by decide +kernel) rfl ?_
      refine V.laldN (j := 0) hG hF (by decide +kernel) ho2 (by omega) (by decide) ?_
      refine V.run hF [(.iload 6, 2, .null), (.i2l, 1, .null), (.lcmp, 1, .null)] (pc' := 1384) (L' := [some (.ref sb), some (.ref (A 0)), some (.ref (B 0)), some (.ref c), some (.int (nI (6 * k))), some (.int k1), some (.int y), none, none]) (st' := [.int (lg_cmp (o1 0) (Int32.toInt64 y))]) (by decide +kernel) rfl ?_
      rw [(lg_cmp_eq _ _).mpr (jo c2)]
      refine V.if_eq hF (off := 5) (tgt := 1389) (by decide +kernel) (by decide) (fun c3 => ?_) (fun c3 => ?_)
      · skip
        refine V.run hF [(.goto 526, 3, .null), (.iinc 4 6, 3, .int 6), (.goto (-1895), 3, .null)] (pc' := 23) (L' := [some (.ref sb), some (.ref (A 0)), some (.ref (B 0)), some (.ref c), some (.int ((nI (6 * k)) + 6)), some (.int k1), some (.int y), none, none]) (st' := []) (by decide +kernel) rfl ?_
        rw [n6 k]
        exact ih _ hL _ _ _ _
      · skip
        exact absurd rfl c3
  · skip
    exact absurd ek c1
set_option maxHeartbeats 8000000 in
theorem lc_hasOn (hG : GOk G) (hN : GNc G) (hF : Ok G F RL cL_law 9 (some .boolean)) (hRm : fR F = { frames := 12, cells := 693274, slots := 7016281, locals := 448 }) (hX : SX G sb n xs) (hn : n ≤ 3072) (hi : 6 * k + 6 ≤ n) (hI : LI a b c k h) (ih : ∀ h', LI a b c (k + 1) h' → ∀ z5 z6 z7 z8, V G F Q kc ks 23 [some (.ref sb), some (.ref a), some (.ref b), some (.ref c), some (.int (nI (6 * (k + 1)))), z5, z6, z7, z8] [] h') : V G F Q (kc + 200) (ks + 1200) 1392 [some (.ref sb), some (.ref a), some (.ref b), some (.ref c), some (.int (nI (6 * k))), none, none, none, none] [] h := by
  obtain ⟨A, σ, P, r, B, x, u, md, hs, o, rfl, rfl, hC, hM, hR, hA, hy, ho, dAB, dAc, dBc⟩ := hI
  have k512 : k < 512 := by omega
  have hS : 999 * (k : Int) ≤ 1073741824 := by omega
  have hA1 : Am σ (999 * ((k + 1 : Nat) : Int)) := hA.up (by omega)
  have hy1 : gy σ ≤ 40 * (k + 1) := by omega
  refine V.run hF [(.aload_n 1, 1, .null), (.aload_n 0, 1, .null), (.iload 4, 2, .null), (.iconst 1, 1, .int (nI 1)), (.iadd, 1, .null)] (pc' := 1398) (L' := [some (.ref sb), some (.ref (A 0)), some (.ref (B 0)), some (.ref c), some (.int (nI (6 * k))), none, none, none, none]) (st' := [.int (nI (6 * k) + nI 1), .ref sb, .ref (A 0)]) (by decide +kernel) rfl ?_
  rw [nI_add (6 * k) 1]
  refine V.sld (j := 6 * k + 1) hF hX (by decide +kernel) (by omega) (by omega) ?_
  refine V.run hF [(.aload_n 0, 1, .null), (.iload 4, 2, .null), (.iconst 2, 1, .int (nI 2)), (.iadd, 1, .null)] (pc' := 1404) (L' := [some (.ref sb), some (.ref (A 0)), some (.ref (B 0)), some (.ref c), some (.int (nI (6 * k))), none, none, none, none]) (st' := [.int (nI (6 * k) + nI 2), .ref sb, .int (xs (6 * k + 1)), .ref (A 0)]) (by decide +kernel) rfl ?_
  rw [nI_add (6 * k) 2]
  refine V.sld (j := 6 * k + 2) hF hX (by decide +kernel) (by omega) (by omega) ?_
  refine V.run hF [(.aload_n 3, 1, .null)] (pc' := 1406) (L' := [some (.ref sb), some (.ref (A 0)), some (.ref (B 0)), some (.ref c), some (.int (nI (6 * k))), none, none, none, none]) (st' := [.ref c, .int (xs (6 * k + 2)), .int (xs (6 * k + 1)), .ref (A 0)]) (by decide +kernel) rfl ?_
  refine V.less (kc' := kc + 2) (ks' := ks + 12) (by omega) (by omega) ?_
  refine V.callSW (As := [.ref (A 0), .int (xs (6 * k + 1)), .int (xs (6 * k + 2)), .ref c]) (st := []) hG hF k_RL_178 (by decide +kernel) (n_hasOn hG hN hC ho dAc (xs (6 * k + 1)) (xs (6 * k + 2))) rfl ⟨by rw [hRm]; decide, by rw [hRm]; decide⟩ (Nat.le_of_ble_eq_true rfl) rfl (fun v1 h1 hp => ?_) (fun E h9 hx => hx.elim)
  obtain ⟨k1, σ', A1, P1, r1, o1, rfl, s1, d1, hC1, ho1, e10, e11, e12⟩ := hp
  have hM1 := LI_B hM dAB dBc e12
  show V G F _ _ _ 1409 [some (.ref sb), some (.ref (A 0)), some (.ref (B 0)), some (.ref c), some (.int (nI (6 * k))), none, none, none, none] [.int k1] h1
  refine V.run hF [(.istore 5, 2, .null), (.aload_n 2, 1, .null), (.aload_n 0, 1, .null), (.iload 4, 2, .null), (.iconst 1, 1, .int (nI 1)), (.iadd, 1, .null)] (pc' := 1417) (L' := [some (.ref sb), some (.ref (A 0)), some (.ref (B 0)), some (.ref c), some (.int (nI (6 * k))), some (.int k1), none, none, none]) (st' := [.int (nI (6 * k) + nI 1), .ref sb, .ref (B 0)]) (by decide +kernel) rfl ?_
  rw [nI_add (6 * k) 1]
  refine V.sld (j := 6 * k + 1) hF hX (by decide +kernel) (by omega) (by omega) ?_
  refine V.run hF [(.aload_n 0, 1, .null), (.iload 4, 2, .null), (.iconst 2, 1, .int (nI 2)), (.iadd, 1, .null)] (pc' := 1423) (L' := [some (.ref sb), some (.ref (A 0)), some (.ref (B 0)), some (.ref c), some (.int (nI (6 * k))), some (.int k1), none, none, none]) (st' := [.int (nI (6 * k) + nI 2), .ref sb, .int (xs (6 * k + 1)), .ref (B 0)]) (by decide +kernel) rfl ?_
  rw [nI_add (6 * k) 2]
  refine V.sld (j := 6 * k + 2) hF hX (by decide +kernel) (by omega) (by omega) ?_
  refine V.callV (As := [.int (xs (6 * k + 1)), .int (xs (6 * k + 2))]) (st := []) hG hF k_RL_180 (by decide +kernel) (m_hasOn hG hM1 hR (xs (6 * k + 1)) (xs (6 * k + 2))) hM1.2.1 rfl rfl ⟨by rw [hRm]; decide, by rw [hRm]; decide⟩ (Nat.le_of_ble_eq_true rfl) rfl (fun v2 h2 hp2 => ?_) (fun E h9 hx => hx.elim)
  obtain ⟨k2, y, σ2, u2, md2, hs2, rfl, s2, d2, hR2, hM2, hk2⟩ := hp2
  have ek : k2 = k1 := st1_u s2 s1
  obtain ⟨rfl, jo, jA, jy⟩ := joinR (R := RI k) ek d1 d2 (fun z => by
    exact ⟨hA1, hy1⟩) ⟨hA1, hy1⟩
  have hL := LI_next hM ho dAB dAc dBc hC1 ho1 e10 e11 hR2 hM2 hk2 jA jy
  have ho2 : h2 c = some (out1 o1) := hk2 c _ ho1 (fun j hj q => dBc j hj q.symm)
  show V G F _ _ _ 1427 [some (.ref sb), some (.ref (A 0)), some (.ref (B 0)), some (.ref c), some (.int (nI (6 * k))), some (.int k1), none, none, none] [.int y] h2
  refine V.run hF [(.istore 6, 2, .null), (.aload_n 2, 1, .null)] (pc' := 1430) (L' := [some (.ref sb), some (.ref (A 0)), some (.ref (B 0)), some (.ref c), some (.int (nI (6 * k))), some (.int k1), some (.int y), none, none]) (st' := [.ref (B 0)]) (by decide +kernel) rfl ?_
  refine V.callV (As := []) (st := []) hG hF k_RL_103 (by decide +kernel) (c_X4_thrown hG hM2) hM2.2.1 rfl rfl ⟨by rw [hRm]; decide, by rw [hRm]; decide⟩ (Nat.le_of_ble_eq_true rfl) rfl (fun v h_3 gp3 => ?_) (fun E h9 hx => hx.elim)
  obtain ⟨rfl, he_gp3⟩ := gp3
  rw [he_gp3]
  show V G F _ _ _ 1433 [some (.ref sb), some (.ref (A 0)), some (.ref (B 0)), some (.ref c), some (.int (nI (6 * k))), some (.int k1), some (.int y), none, none] [.int k2] h2
  refine V.run hF [(.iload 5, 2, .null)] (pc' := 1435) (L' := [some (.ref sb), some (.ref (A 0)), some (.ref (B 0)), some (.ref c), some (.int (nI (6 * k))), some (.int k1), some (.int y), none, none]) (st' := [.int k1, .int k2]) (by decide +kernel) rfl ?_
  refine V.icmp_eq hF (off := 5) (tgt := 1440) (by decide +kernel) (by decide) (fun c1 => ?_) (fun c1 => ?_)
  · skip
    refine V.run hF [(.iload 5, 2, .null)] (pc' := 1442) (L' := [some (.ref sb), some (.ref (A 0)), some (.ref (B 0)), some (.ref c), some (.int (nI (6 * k))), some (.int k1), some (.int y), none, none]) (st' := [.int k1]) (by decide +kernel) rfl ?_
    refine V.if_ne hF (off := 15) (tgt := 1457) (by decide +kernel) (by decide) (fun c2 => ?_) (fun c2 => ?_)
    · skip
      refine V.run hF [(.goto 458, 3, .null), (.iinc 4 6, 3, .int 6), (.goto (-1895), 3, .null)] (pc' := 23) (L' := [some (.ref sb), some (.ref (A 0)), some (.ref (B 0)), some (.ref c), some (.int ((nI (6 * k)) + 6)), some (.int k1), some (.int y), none, none]) (st' := []) (by decide +kernel) rfl ?_
      rw [n6 k]
      exact ih _ hL _ _ _ _
    · skip
      refine V.run hF [(.aload_n 3, 1, .null), (.iconst 0, 1, .int (nI 0))] (pc' := 1447) (L' := [some (.ref sb), some (.ref (A 0)), some (.ref (B 0)), some (.ref c), some (.int (nI (6 * k))), some (.int k1), some (.int y), none, none]) (st' := [.int (nI 0), .ref c]) (by decide +kernel) rfl ?_
      refine V.laldN (j := 0) hG hF (by decide +kernel) ho2 (by omega) (by decide) ?_
      refine V.run hF [(.iload 6, 2, .null), (.i2l, 1, .null), (.lcmp, 1, .null)] (pc' := 1452) (L' := [some (.ref sb), some (.ref (A 0)), some (.ref (B 0)), some (.ref c), some (.int (nI (6 * k))), some (.int k1), some (.int y), none, none]) (st' := [.int (lg_cmp (o1 0) (Int32.toInt64 y))]) (by decide +kernel) rfl ?_
      rw [(lg_cmp_eq _ _).mpr (jo c2)]
      refine V.if_eq hF (off := 5) (tgt := 1457) (by decide +kernel) (by decide) (fun c3 => ?_) (fun c3 => ?_)
      · skip
        refine V.run hF [(.goto 458, 3, .null), (.iinc 4 6, 3, .int 6), (.goto (-1895), 3, .null)] (pc' := 23) (L' := [some (.ref sb), some (.ref (A 0)), some (.ref (B 0)), some (.ref c), some (.int ((nI (6 * k)) + 6)), some (.int k1), some (.int y), none, none]) (st' := []) (by decide +kernel) rfl ?_
        rw [n6 k]
        exact ih _ hL _ _ _ _
      · skip
        exact absurd rfl c3
  · skip
    exact absurd ek c1
set_option maxHeartbeats 8000000 in
theorem lc_owes (hG : GOk G) (hN : GNc G) (hF : Ok G F RL cL_law 9 (some .boolean)) (hRm : fR F = { frames := 12, cells := 693274, slots := 7016281, locals := 448 }) (hX : SX G sb n xs) (hn : n ≤ 3072) (hi : 6 * k + 6 ≤ n) (hI : LI a b c k h) (ih : ∀ h', LI a b c (k + 1) h' → ∀ z5 z6 z7 z8, V G F Q kc ks 23 [some (.ref sb), some (.ref a), some (.ref b), some (.ref c), some (.int (nI (6 * (k + 1)))), z5, z6, z7, z8] [] h') : V G F Q (kc + 200) (ks + 1200) 1460 [some (.ref sb), some (.ref a), some (.ref b), some (.ref c), some (.int (nI (6 * k))), none, none, none, none] [] h := by
  obtain ⟨A, σ, P, r, B, x, u, md, hs, o, rfl, rfl, hC, hM, hR, hA, hy, ho, dAB, dAc, dBc⟩ := hI
  have k512 : k < 512 := by omega
  have hS : 999 * (k : Int) ≤ 1073741824 := by omega
  have hA1 : Am σ (999 * ((k + 1 : Nat) : Int)) := hA.up (by omega)
  have hy1 : gy σ ≤ 40 * (k + 1) := by omega
  refine V.run hF [(.aload_n 1, 1, .null), (.aload_n 0, 1, .null), (.iload 4, 2, .null), (.iconst 1, 1, .int (nI 1)), (.iadd, 1, .null)] (pc' := 1466) (L' := [some (.ref sb), some (.ref (A 0)), some (.ref (B 0)), some (.ref c), some (.int (nI (6 * k))), none, none, none, none]) (st' := [.int (nI (6 * k) + nI 1), .ref sb, .ref (A 0)]) (by decide +kernel) rfl ?_
  rw [nI_add (6 * k) 1]
  refine V.sld (j := 6 * k + 1) hF hX (by decide +kernel) (by omega) (by omega) ?_
  refine V.run hF [(.aload_n 0, 1, .null), (.iload 4, 2, .null), (.iconst 2, 1, .int (nI 2)), (.iadd, 1, .null)] (pc' := 1472) (L' := [some (.ref sb), some (.ref (A 0)), some (.ref (B 0)), some (.ref c), some (.int (nI (6 * k))), none, none, none, none]) (st' := [.int (nI (6 * k) + nI 2), .ref sb, .int (xs (6 * k + 1)), .ref (A 0)]) (by decide +kernel) rfl ?_
  rw [nI_add (6 * k) 2]
  refine V.sld (j := 6 * k + 2) hF hX (by decide +kernel) (by omega) (by omega) ?_
  refine V.run hF [(.aload_n 3, 1, .null)] (pc' := 1474) (L' := [some (.ref sb), some (.ref (A 0)), some (.ref (B 0)), some (.ref c), some (.int (nI (6 * k))), none, none, none, none]) (st' := [.ref c, .int (xs (6 * k + 2)), .int (xs (6 * k + 1)), .ref (A 0)]) (by decide +kernel) rfl ?_
  refine V.less (kc' := kc + 2) (ks' := ks + 12) (by omega) (by omega) ?_
  refine V.callSW (As := [.ref (A 0), .int (xs (6 * k + 1)), .int (xs (6 * k + 2)), .ref c]) (st := []) hG hF k_RL_181 (by decide +kernel) (n_owes hG hN hC ho dAc (xs (6 * k + 1)) (xs (6 * k + 2))) rfl ⟨by rw [hRm]; decide, by rw [hRm]; decide⟩ (Nat.le_of_ble_eq_true rfl) rfl (fun v1 h1 hp => ?_) (fun E h9 hx => hx.elim)
  obtain ⟨k1, σ', A1, P1, r1, o1, rfl, s1, d1, hC1, ho1, e10, e11, e12⟩ := hp
  have hM1 := LI_B hM dAB dBc e12
  show V G F _ _ _ 1477 [some (.ref sb), some (.ref (A 0)), some (.ref (B 0)), some (.ref c), some (.int (nI (6 * k))), none, none, none, none] [.int k1] h1
  refine V.run hF [(.istore 5, 2, .null), (.aload_n 2, 1, .null), (.aload_n 0, 1, .null), (.iload 4, 2, .null), (.iconst 1, 1, .int (nI 1)), (.iadd, 1, .null)] (pc' := 1485) (L' := [some (.ref sb), some (.ref (A 0)), some (.ref (B 0)), some (.ref c), some (.int (nI (6 * k))), some (.int k1), none, none, none]) (st' := [.int (nI (6 * k) + nI 1), .ref sb, .ref (B 0)]) (by decide +kernel) rfl ?_
  rw [nI_add (6 * k) 1]
  refine V.sld (j := 6 * k + 1) hF hX (by decide +kernel) (by omega) (by omega) ?_
  refine V.run hF [(.aload_n 0, 1, .null), (.iload 4, 2, .null), (.iconst 2, 1, .int (nI 2)), (.iadd, 1, .null)] (pc' := 1491) (L' := [some (.ref sb), some (.ref (A 0)), some (.ref (B 0)), some (.ref c), some (.int (nI (6 * k))), some (.int k1), none, none, none]) (st' := [.int (nI (6 * k) + nI 2), .ref sb, .int (xs (6 * k + 1)), .ref (B 0)]) (by decide +kernel) rfl ?_
  rw [nI_add (6 * k) 2]
  refine V.sld (j := 6 * k + 2) hF hX (by decide +kernel) (by omega) (by omega) ?_
  refine V.callV (As := [.int (xs (6 * k + 1)), .int (xs (6 * k + 2))]) (st := []) hG hF k_RL_183 (by decide +kernel) (m_owes hG hM1 hR (xs (6 * k + 1)) (xs (6 * k + 2))) hM1.2.1 rfl rfl ⟨by rw [hRm]; decide, by rw [hRm]; decide⟩ (Nat.le_of_ble_eq_true rfl) rfl (fun v2 h2 hp2 => ?_) (fun E h9 hx => hx.elim)
  obtain ⟨k2, y, σ2, u2, md2, hs2, rfl, s2, d2, hR2, hM2, hk2⟩ := hp2
  have ek : k2 = k1 := st1_u s2 s1
  obtain ⟨rfl, jo, jA, jy⟩ := joinR (R := RI k) ek d1 d2 (fun z => by
    exact ⟨hA1, hy1⟩) ⟨hA1, hy1⟩
  have hL := LI_next hM ho dAB dAc dBc hC1 ho1 e10 e11 hR2 hM2 hk2 jA jy
  have ho2 : h2 c = some (out1 o1) := hk2 c _ ho1 (fun j hj q => dBc j hj q.symm)
  show V G F _ _ _ 1495 [some (.ref sb), some (.ref (A 0)), some (.ref (B 0)), some (.ref c), some (.int (nI (6 * k))), some (.int k1), none, none, none] [.int y] h2
  refine V.run hF [(.istore 6, 2, .null), (.aload_n 2, 1, .null)] (pc' := 1498) (L' := [some (.ref sb), some (.ref (A 0)), some (.ref (B 0)), some (.ref c), some (.int (nI (6 * k))), some (.int k1), some (.int y), none, none]) (st' := [.ref (B 0)]) (by decide +kernel) rfl ?_
  refine V.callV (As := []) (st := []) hG hF k_RL_103 (by decide +kernel) (c_X4_thrown hG hM2) hM2.2.1 rfl rfl ⟨by rw [hRm]; decide, by rw [hRm]; decide⟩ (Nat.le_of_ble_eq_true rfl) rfl (fun v h_3 gp3 => ?_) (fun E h9 hx => hx.elim)
  obtain ⟨rfl, he_gp3⟩ := gp3
  rw [he_gp3]
  show V G F _ _ _ 1501 [some (.ref sb), some (.ref (A 0)), some (.ref (B 0)), some (.ref c), some (.int (nI (6 * k))), some (.int k1), some (.int y), none, none] [.int k2] h2
  refine V.run hF [(.iload 5, 2, .null)] (pc' := 1503) (L' := [some (.ref sb), some (.ref (A 0)), some (.ref (B 0)), some (.ref c), some (.int (nI (6 * k))), some (.int k1), some (.int y), none, none]) (st' := [.int k1, .int k2]) (by decide +kernel) rfl ?_
  refine V.icmp_eq hF (off := 5) (tgt := 1508) (by decide +kernel) (by decide) (fun c1 => ?_) (fun c1 => ?_)
  · skip
    refine V.run hF [(.iload 5, 2, .null)] (pc' := 1510) (L' := [some (.ref sb), some (.ref (A 0)), some (.ref (B 0)), some (.ref c), some (.int (nI (6 * k))), some (.int k1), some (.int y), none, none]) (st' := [.int k1]) (by decide +kernel) rfl ?_
    refine V.if_ne hF (off := 15) (tgt := 1525) (by decide +kernel) (by decide) (fun c2 => ?_) (fun c2 => ?_)
    · skip
      refine V.run hF [(.goto 390, 3, .null), (.iinc 4 6, 3, .int 6), (.goto (-1895), 3, .null)] (pc' := 23) (L' := [some (.ref sb), some (.ref (A 0)), some (.ref (B 0)), some (.ref c), some (.int ((nI (6 * k)) + 6)), some (.int k1), some (.int y), none, none]) (st' := []) (by decide +kernel) rfl ?_
      rw [n6 k]
      exact ih _ hL _ _ _ _
    · skip
      refine V.run hF [(.aload_n 3, 1, .null), (.iconst 0, 1, .int (nI 0))] (pc' := 1515) (L' := [some (.ref sb), some (.ref (A 0)), some (.ref (B 0)), some (.ref c), some (.int (nI (6 * k))), some (.int k1), some (.int y), none, none]) (st' := [.int (nI 0), .ref c]) (by decide +kernel) rfl ?_
      refine V.laldN (j := 0) hG hF (by decide +kernel) ho2 (by omega) (by decide) ?_
      refine V.run hF [(.iload 6, 2, .null), (.i2l, 1, .null), (.lcmp, 1, .null)] (pc' := 1520) (L' := [some (.ref sb), some (.ref (A 0)), some (.ref (B 0)), some (.ref c), some (.int (nI (6 * k))), some (.int k1), some (.int y), none, none]) (st' := [.int (lg_cmp (o1 0) (Int32.toInt64 y))]) (by decide +kernel) rfl ?_
      rw [(lg_cmp_eq _ _).mpr (jo c2)]
      refine V.if_eq hF (off := 5) (tgt := 1525) (by decide +kernel) (by decide) (fun c3 => ?_) (fun c3 => ?_)
      · skip
        refine V.run hF [(.goto 390, 3, .null), (.iinc 4 6, 3, .int 6), (.goto (-1895), 3, .null)] (pc' := 23) (L' := [some (.ref sb), some (.ref (A 0)), some (.ref (B 0)), some (.ref c), some (.int ((nI (6 * k)) + 6)), some (.int k1), some (.int y), none, none]) (st' := []) (by decide +kernel) rfl ?_
        rw [n6 k]
        exact ih _ hL _ _ _ _
      · skip
        exact absurd rfl c3
  · skip
    exact absurd ek c1
set_option maxHeartbeats 8000000 in
theorem lc_total (hG : GOk G) (hN : GNc G) (hF : Ok G F RL cL_law 9 (some .boolean)) (hRm : fR F = { frames := 12, cells := 693274, slots := 7016281, locals := 448 }) (hX : SX G sb n xs) (hn : n ≤ 3072) (hi : 6 * k + 6 ≤ n) (hI : LI a b c k h) (ih : ∀ h', LI a b c (k + 1) h' → ∀ z5 z6 z7 z8, V G F Q kc ks 23 [some (.ref sb), some (.ref a), some (.ref b), some (.ref c), some (.int (nI (6 * (k + 1)))), z5, z6, z7, z8] [] h') : V G F Q (kc + 200) (ks + 1200) 1528 [some (.ref sb), some (.ref a), some (.ref b), some (.ref c), some (.int (nI (6 * k))), none, none, none, none] [] h := by
  obtain ⟨A, σ, P, r, B, x, u, md, hs, o, rfl, rfl, hC, hM, hR, hA, hy, ho, dAB, dAc, dBc⟩ := hI
  have k512 : k < 512 := by omega
  have hS : 999 * (k : Int) ≤ 1073741824 := by omega
  have hA1 : Am σ (999 * ((k + 1 : Nat) : Int)) := hA.up (by omega)
  have hy1 : gy σ ≤ 40 * (k + 1) := by omega
  refine V.less (kc' := kc) (ks' := ks) (by omega) (by omega) ?_
  refine V.run hF [(.aload_n 1, 1, .null)] (pc' := 1529) (L' := [some (.ref sb), some (.ref (A 0)), some (.ref (B 0)), some (.ref c), some (.int (nI (6 * k))), none, none, none, none]) (st' := [.ref (A 0)]) (by decide +kernel) rfl ?_
  refine V.callV (As := []) (st := []) hG hF k_RL_184 (by decide +kernel) (c_X3_total hG hC) hC.2.2.1 rfl rfl ⟨by rw [hRm]; decide, by rw [hRm]; decide⟩ (Nat.le_of_ble_eq_true rfl) rfl (fun v h_1 gp1 => ?_) (fun E h9 hx => hx.elim)
  obtain ⟨rfl, he_gp1⟩ := gp1
  rw [he_gp1]
  show V G F _ _ _ 1532 [some (.ref sb), some (.ref (A 0)), some (.ref (B 0)), some (.ref c), some (.int (nI (6 * k))), none, none, none, none] [.int (gTo σ (gT σ))] h
  refine V.run hF [(.aload_n 2, 1, .null)] (pc' := 1533) (L' := [some (.ref sb), some (.ref (A 0)), some (.ref (B 0)), some (.ref c), some (.int (nI (6 * k))), none, none, none, none]) (st' := [.ref (B 0), .int (gTo σ (gT σ))]) (by decide +kernel) rfl ?_
  refine V.callV (As := []) (st := [.int (gTo σ (gT σ))]) hG hF k_RL_187 (by decide +kernel) (c_X4_total hG hM hR) hM.2.1 rfl rfl ⟨by rw [hRm]; decide, by rw [hRm]; decide⟩ (Nat.le_of_ble_eq_true rfl) rfl (fun v2 h2 hp2 => ?_) (fun E h9 hx => hx.elim)
  obtain ⟨rfl, md2, hs2, hM2, hk2⟩ := hp2
  have hL := LI_next hM ho dAB dAc dBc hC ho rfl (fun i hi => Or.inl ⟨i, hi, rfl⟩) hR hM2 (kpN.rf.kB hk2) hA1 hy1
  show V G F _ _ _ 1536 [some (.ref sb), some (.ref (A 0)), some (.ref (B 0)), some (.ref c), some (.int (nI (6 * k))), none, none, none, none] [.int (gTo σ (gT σ)), .int (gTo σ (gT σ))] h2
  refine V.icmp_eq hF (off := 379) (tgt := 1915) (by decide +kernel) (by decide) (fun c1 => ?_) (fun c1 => ?_)
  · skip
    refine V.run hF [(.iinc 4 6, 3, .int 6), (.goto (-1895), 3, .null)] (pc' := 23) (L' := [some (.ref sb), some (.ref (A 0)), some (.ref (B 0)), some (.ref c), some (.int ((nI (6 * k)) + 6)), none, none, none, none]) (st' := []) (by decide +kernel) rfl ?_
    rw [n6 k]
    exact ih _ hL _ _ _ _
  · skip
    exact absurd rfl c1
set_option maxHeartbeats 8000000 in
theorem lc_richest (hG : GOk G) (hN : GNc G) (hF : Ok G F RL cL_law 9 (some .boolean)) (hRm : fR F = { frames := 12, cells := 693274, slots := 7016281, locals := 448 }) (hX : SX G sb n xs) (hn : n ≤ 3072) (hi : 6 * k + 6 ≤ n) (hI : LI a b c k h) (ih : ∀ h', LI a b c (k + 1) h' → ∀ z5 z6 z7 z8, V G F Q kc ks 23 [some (.ref sb), some (.ref a), some (.ref b), some (.ref c), some (.int (nI (6 * (k + 1)))), z5, z6, z7, z8] [] h') : V G F Q (kc + 200) (ks + 1200) 1541 [some (.ref sb), some (.ref a), some (.ref b), some (.ref c), some (.int (nI (6 * k))), none, none, none, none] [] h := by
  obtain ⟨A, σ, P, r, B, x, u, md, hs, o, rfl, rfl, hC, hM, hR, hA, hy, ho, dAB, dAc, dBc⟩ := hI
  have k512 : k < 512 := by omega
  have hS : 999 * (k : Int) ≤ 1073741824 := by omega
  have hA1 : Am σ (999 * ((k + 1 : Nat) : Int)) := hA.up (by omega)
  have hy1 : gy σ ≤ 40 * (k + 1) := by omega
  refine V.less (kc' := kc) (ks' := ks) (by omega) (by omega) ?_
  refine V.run hF [(.aload_n 1, 1, .null)] (pc' := 1542) (L' := [some (.ref sb), some (.ref (A 0)), some (.ref (B 0)), some (.ref c), some (.int (nI (6 * k))), none, none, none, none]) (st' := [.ref (A 0)]) (by decide +kernel) rfl ?_
  refine V.callV (As := []) (st := []) hG hF k_RL_188 (by decide +kernel) (c_X3_richest hG hC) hC.2.2.1 rfl rfl ⟨by rw [hRm]; decide, by rw [hRm]; decide⟩ (Nat.le_of_ble_eq_true rfl) rfl (fun v h_1 gp1 => ?_) (fun E h9 hx => hx.elim)
  obtain ⟨rfl, he_gp1⟩ := gp1
  rw [he_gp1]
  show V G F _ _ _ 1545 [some (.ref sb), some (.ref (A 0)), some (.ref (B 0)), some (.ref c), some (.int (nI (6 * k))), none, none, none, none] [.int (rch σ)] h
  refine V.run hF [(.aload_n 2, 1, .null)] (pc' := 1546) (L' := [some (.ref sb), some (.ref (A 0)), some (.ref (B 0)), some (.ref c), some (.int (nI (6 * k))), none, none, none, none]) (st' := [.ref (B 0), .int (rch σ)]) (by decide +kernel) rfl ?_
  refine V.callV (As := []) (st := [.int (rch σ)]) hG hF k_RL_191 (by decide +kernel) (c_X4_richest hG hM hR) hM.2.1 rfl rfl ⟨by rw [hRm]; decide, by rw [hRm]; decide⟩ (Nat.le_of_ble_eq_true rfl) rfl (fun v2 h2 hp2 => ?_) (fun E h9 hx => hx.elim)
  obtain ⟨rfl, md2, hs2, hM2, hk2⟩ := hp2
  have hL := LI_next hM ho dAB dAc dBc hC ho rfl (fun i hi => Or.inl ⟨i, hi, rfl⟩) hR hM2 (kpN.rf.kB hk2) hA1 hy1
  show V G F _ _ _ 1549 [some (.ref sb), some (.ref (A 0)), some (.ref (B 0)), some (.ref c), some (.int (nI (6 * k))), none, none, none, none] [.int (rch σ), .int (rch σ)] h2
  refine V.icmp_eq hF (off := 366) (tgt := 1915) (by decide +kernel) (by decide) (fun c1 => ?_) (fun c1 => ?_)
  · skip
    refine V.run hF [(.iinc 4 6, 3, .int 6), (.goto (-1895), 3, .null)] (pc' := 23) (L' := [some (.ref sb), some (.ref (A 0)), some (.ref (B 0)), some (.ref c), some (.int ((nI (6 * k)) + 6)), none, none, none, none]) (st' := []) (by decide +kernel) rfl ?_
    rw [n6 k]
    exact ih _ hL _ _ _ _
  · skip
    exact absurd rfl c1
set_option maxHeartbeats 8000000 in
theorem lc_owesAlong (hG : GOk G) (hN : GNc G) (hF : Ok G F RL cL_law 9 (some .boolean)) (hRm : fR F = { frames := 12, cells := 693274, slots := 7016281, locals := 448 }) (hX : SX G sb n xs) (hn : n ≤ 3072) (hi : 6 * k + 6 ≤ n) (hI : LI a b c k h) (ih : ∀ h', LI a b c (k + 1) h' → ∀ z5 z6 z7 z8, V G F Q kc ks 23 [some (.ref sb), some (.ref a), some (.ref b), some (.ref c), some (.int (nI (6 * (k + 1)))), z5, z6, z7, z8] [] h') : V G F Q (kc + 200) (ks + 1200) 1554 [some (.ref sb), some (.ref a), some (.ref b), some (.ref c), some (.int (nI (6 * k))), none, none, none, none] [] h := by
  obtain ⟨A, σ, P, r, B, x, u, md, hs, o, rfl, rfl, hC, hM, hR, hA, hy, ho, dAB, dAc, dBc⟩ := hI
  have k512 : k < 512 := by omega
  have hS : 999 * (k : Int) ≤ 1073741824 := by omega
  have hA1 : Am σ (999 * ((k + 1 : Nat) : Int)) := hA.up (by omega)
  have hy1 : gy σ ≤ 40 * (k + 1) := by omega
  refine V.run hF [(.aload_n 1, 1, .null), (.aload_n 0, 1, .null), (.iload 4, 2, .null), (.iconst 1, 1, .int (nI 1)), (.iadd, 1, .null)] (pc' := 1560) (L' := [some (.ref sb), some (.ref (A 0)), some (.ref (B 0)), some (.ref c), some (.int (nI (6 * k))), none, none, none, none]) (st' := [.int (nI (6 * k) + nI 1), .ref sb, .ref (A 0)]) (by decide +kernel) rfl ?_
  rw [nI_add (6 * k) 1]
  refine V.sld (j := 6 * k + 1) hF hX (by decide +kernel) (by omega) (by omega) ?_
  refine V.run hF [(.aload_n 3, 1, .null)] (pc' := 1562) (L' := [some (.ref sb), some (.ref (A 0)), some (.ref (B 0)), some (.ref c), some (.int (nI (6 * k))), none, none, none, none]) (st' := [.ref c, .int (xs (6 * k + 1)), .ref (A 0)]) (by decide +kernel) rfl ?_
  refine V.less (kc' := kc + 1) (ks' := ks + 6) (by omega) (by omega) ?_
  refine V.callSW (As := [.ref (A 0), .int (xs (6 * k + 1)), .ref c]) (st := []) hG hF k_RL_192 (by decide +kernel) (n_owesAlong hG hN hC ho dAc (xs (6 * k + 1))) rfl ⟨by rw [hRm]; decide, by rw [hRm]; decide⟩ (Nat.le_of_ble_eq_true rfl) rfl (fun v1 h1 hp => ?_) (fun E h9 hx => hx.elim)
  obtain ⟨k1, σ', A1, P1, r1, o1, rfl, s1, d1, hC1, ho1, e10, e11, e12⟩ := hp
  have hM1 := LI_B hM dAB dBc e12
  show V G F _ _ _ 1565 [some (.ref sb), some (.ref (A 0)), some (.ref (B 0)), some (.ref c), some (.int (nI (6 * k))), none, none, none, none] [.int k1] h1
  refine V.run hF [(.istore 5, 2, .null), (.aload_n 2, 1, .null), (.aload_n 0, 1, .null), (.iload 4, 2, .null), (.iconst 1, 1, .int (nI 1)), (.iadd, 1, .null)] (pc' := 1573) (L' := [some (.ref sb), some (.ref (A 0)), some (.ref (B 0)), some (.ref c), some (.int (nI (6 * k))), some (.int k1), none, none, none]) (st' := [.int (nI (6 * k) + nI 1), .ref sb, .ref (B 0)]) (by decide +kernel) rfl ?_
  rw [nI_add (6 * k) 1]
  refine V.sld (j := 6 * k + 1) hF hX (by decide +kernel) (by omega) (by omega) ?_
  refine V.callV (As := [.int (xs (6 * k + 1))]) (st := []) hG hF k_RL_194 (by decide +kernel) (m_owesAlong hG hM1 hR (xs (6 * k + 1))) hM1.2.1 rfl rfl ⟨by rw [hRm]; decide, by rw [hRm]; decide⟩ (Nat.le_of_ble_eq_true rfl) rfl (fun v2 h2 hp2 => ?_) (fun E h9 hx => hx.elim)
  obtain ⟨k2, y, σ2, u2, md2, hs2, rfl, s2, d2, hR2, hM2, hk2⟩ := hp2
  have ek : k2 = k1 := st1_u s2 s1
  obtain ⟨rfl, jo, jA, jy⟩ := joinR (R := RI k) ek d1 d2 (fun z => by
    exact ⟨hA1, hy1⟩) ⟨hA1, hy1⟩
  have hL := LI_next hM ho dAB dAc dBc hC1 ho1 e10 e11 hR2 hM2 hk2 jA jy
  have ho2 : h2 c = some (out1 o1) := hk2 c _ ho1 (fun j hj q => dBc j hj q.symm)
  show V G F _ _ _ 1577 [some (.ref sb), some (.ref (A 0)), some (.ref (B 0)), some (.ref c), some (.int (nI (6 * k))), some (.int k1), none, none, none] [.int y] h2
  refine V.run hF [(.istore 6, 2, .null), (.aload_n 2, 1, .null)] (pc' := 1580) (L' := [some (.ref sb), some (.ref (A 0)), some (.ref (B 0)), some (.ref c), some (.int (nI (6 * k))), some (.int k1), some (.int y), none, none]) (st' := [.ref (B 0)]) (by decide +kernel) rfl ?_
  refine V.callV (As := []) (st := []) hG hF k_RL_103 (by decide +kernel) (c_X4_thrown hG hM2) hM2.2.1 rfl rfl ⟨by rw [hRm]; decide, by rw [hRm]; decide⟩ (Nat.le_of_ble_eq_true rfl) rfl (fun v h_3 gp3 => ?_) (fun E h9 hx => hx.elim)
  obtain ⟨rfl, he_gp3⟩ := gp3
  rw [he_gp3]
  show V G F _ _ _ 1583 [some (.ref sb), some (.ref (A 0)), some (.ref (B 0)), some (.ref c), some (.int (nI (6 * k))), some (.int k1), some (.int y), none, none] [.int k2] h2
  refine V.run hF [(.iload 5, 2, .null)] (pc' := 1585) (L' := [some (.ref sb), some (.ref (A 0)), some (.ref (B 0)), some (.ref c), some (.int (nI (6 * k))), some (.int k1), some (.int y), none, none]) (st' := [.int k1, .int k2]) (by decide +kernel) rfl ?_
  refine V.icmp_eq hF (off := 5) (tgt := 1590) (by decide +kernel) (by decide) (fun c1 => ?_) (fun c1 => ?_)
  · skip
    refine V.run hF [(.iload 5, 2, .null)] (pc' := 1592) (L' := [some (.ref sb), some (.ref (A 0)), some (.ref (B 0)), some (.ref c), some (.int (nI (6 * k))), some (.int k1), some (.int y), none, none]) (st' := [.int k1]) (by decide +kernel) rfl ?_
    refine V.if_ne hF (off := 15) (tgt := 1607) (by decide +kernel) (by decide) (fun c2 => ?_) (fun c2 => ?_)
    · skip
      refine V.run hF [(.goto 308, 3, .null), (.iinc 4 6, 3, .int 6), (.goto (-1895), 3, .null)] (pc' := 23) (L' := [some (.ref sb), some (.ref (A 0)), some (.ref (B 0)), some (.ref c), some (.int ((nI (6 * k)) + 6)), some (.int k1), some (.int y), none, none]) (st' := []) (by decide +kernel) rfl ?_
      rw [n6 k]
      exact ih _ hL _ _ _ _
    · skip
      refine V.run hF [(.aload_n 3, 1, .null), (.iconst 0, 1, .int (nI 0))] (pc' := 1597) (L' := [some (.ref sb), some (.ref (A 0)), some (.ref (B 0)), some (.ref c), some (.int (nI (6 * k))), some (.int k1), some (.int y), none, none]) (st' := [.int (nI 0), .ref c]) (by decide +kernel) rfl ?_
      refine V.laldN (j := 0) hG hF (by decide +kernel) ho2 (by omega) (by decide) ?_
      refine V.run hF [(.iload 6, 2, .null), (.i2l, 1, .null), (.lcmp, 1, .null)] (pc' := 1602) (L' := [some (.ref sb), some (.ref (A 0)), some (.ref (B 0)), some (.ref c), some (.int (nI (6 * k))), some (.int k1), some (.int y), none, none]) (st' := [.int (lg_cmp (o1 0) (Int32.toInt64 y))]) (by decide +kernel) rfl ?_
      rw [(lg_cmp_eq _ _).mpr (jo c2)]
      refine V.if_eq hF (off := 5) (tgt := 1607) (by decide +kernel) (by decide) (fun c3 => ?_) (fun c3 => ?_)
      · skip
        refine V.run hF [(.goto 308, 3, .null), (.iinc 4 6, 3, .int 6), (.goto (-1895), 3, .null)] (pc' := 23) (L' := [some (.ref sb), some (.ref (A 0)), some (.ref (B 0)), some (.ref c), some (.int ((nI (6 * k)) + 6)), some (.int k1), some (.int y), none, none]) (st' := []) (by decide +kernel) rfl ?_
        rw [n6 k]
        exact ih _ hL _ _ _ _
      · skip
        exact absurd rfl c3
  · skip
    exact absurd ek c1
set_option maxHeartbeats 8000000 in
theorem lc_isRound (hG : GOk G) (hN : GNc G) (hF : Ok G F RL cL_law 9 (some .boolean)) (hRm : fR F = { frames := 12, cells := 693274, slots := 7016281, locals := 448 }) (hX : SX G sb n xs) (hn : n ≤ 3072) (hi : 6 * k + 6 ≤ n) (hI : LI a b c k h) (ih : ∀ h', LI a b c (k + 1) h' → ∀ z5 z6 z7 z8, V G F Q kc ks 23 [some (.ref sb), some (.ref a), some (.ref b), some (.ref c), some (.int (nI (6 * (k + 1)))), z5, z6, z7, z8] [] h') : V G F Q (kc + 200) (ks + 1200) 1610 [some (.ref sb), some (.ref a), some (.ref b), some (.ref c), some (.int (nI (6 * k))), none, none, none, none] [] h := by
  obtain ⟨A, σ, P, r, B, x, u, md, hs, o, rfl, rfl, hC, hM, hR, hA, hy, ho, dAB, dAc, dBc⟩ := hI
  have k512 : k < 512 := by omega
  have hS : 999 * (k : Int) ≤ 1073741824 := by omega
  have hA1 : Am σ (999 * ((k + 1 : Nat) : Int)) := hA.up (by omega)
  have hy1 : gy σ ≤ 40 * (k + 1) := by omega
  refine V.less (kc' := kc) (ks' := ks) (by omega) (by omega) ?_
  refine V.run hF [(.aload_n 1, 1, .null)] (pc' := 1611) (L' := [some (.ref sb), some (.ref (A 0)), some (.ref (B 0)), some (.ref c), some (.int (nI (6 * k))), none, none, none, none]) (st' := [.ref (A 0)]) (by decide +kernel) rfl ?_
  refine V.callV (As := []) (st := []) hG hF k_RL_195 (by decide +kernel) (c_X3_isRound hG hC) hC.2.2.1 rfl rfl ⟨by rw [hRm]; decide, by rw [hRm]; decide⟩ (Nat.le_of_ble_eq_true rfl) rfl (fun v1 h1 hp => ?_) (fun E h9 hx => hx.elim)
  obtain ⟨rfl, T1, hC1, hk1⟩ := hp
  have e12 : ∀ q e, h q = some e → q ≠ c → (∀ i, i < nA σ → q ≠ A i) → h1 q = some e := fun q e he _ hA => (hk1 q hA).trans he
  have ho1 : h1 c = some (out1 o) := (hk1 c (fun i hi q => dAc i hi q.symm)).trans ho
  have hM1 := LI_B hM dAB dBc e12
  show V G F _ _ _ 1614 [some (.ref sb), some (.ref (A 0)), some (.ref (B 0)), some (.ref c), some (.int (nI (6 * k))), none, none, none, none] [.int (rdd σ)] h1
  refine V.run hF [(.aload_n 2, 1, .null)] (pc' := 1615) (L' := [some (.ref sb), some (.ref (A 0)), some (.ref (B 0)), some (.ref c), some (.int (nI (6 * k))), none, none, none, none]) (st' := [.ref (B 0), .int (rdd σ)]) (by decide +kernel) rfl ?_
  refine V.callV (As := []) (st := [.int (rdd σ)]) hG hF k_RL_199 (by decide +kernel) (c_X4_isRound hG hM1 hR (RST_of (LnP_of hR))) hM1.2.1 rfl rfl ⟨by rw [hRm]; decide, by rw [hRm]; decide⟩ (Nat.le_of_ble_eq_true rfl) rfl (fun v2 h2 hp2 => ?_) (fun E h9 hx => hx.elim)
  obtain ⟨rfl, md2, hs2, hM2, hk2⟩ := hp2
  have hL := LI_next hM ho dAB dAc dBc hC1 ho1 rfl (fun i hi => Or.inl ⟨i, hi, rfl⟩) hR hM2 (kpN.rf.kB hk2) hA1 hy1
  rw [rdB_rdd (LnP_of hR)]
  show V G F _ _ _ 1618 [some (.ref sb), some (.ref (A 0)), some (.ref (B 0)), some (.ref c), some (.int (nI (6 * k))), none, none, none, none] [.int (rdd σ), .int (rdd σ)] h2
  refine V.icmp_eq hF (off := 297) (tgt := 1915) (by decide +kernel) (by decide) (fun c1 => ?_) (fun c1 => ?_)
  · skip
    refine V.run hF [(.iinc 4 6, 3, .int 6), (.goto (-1895), 3, .null)] (pc' := 23) (L' := [some (.ref sb), some (.ref (A 0)), some (.ref (B 0)), some (.ref c), some (.int ((nI (6 * k)) + 6)), none, none, none, none]) (st' := []) (by decide +kernel) rfl ?_
    rw [n6 k]
    exact ih _ hL _ _ _ _
  · skip
    exact absurd rfl c1
set_option maxHeartbeats 8000000 in
theorem lc_linesSmoothed (hG : GOk G) (hN : GNc G) (hF : Ok G F RL cL_law 9 (some .boolean)) (hRm : fR F = { frames := 12, cells := 693274, slots := 7016281, locals := 448 }) (hX : SX G sb n xs) (hn : n ≤ 3072) (hi : 6 * k + 6 ≤ n) (hI : LI a b c k h) (ih : ∀ h', LI a b c (k + 1) h' → ∀ z5 z6 z7 z8, V G F Q kc ks 23 [some (.ref sb), some (.ref a), some (.ref b), some (.ref c), some (.int (nI (6 * (k + 1)))), z5, z6, z7, z8] [] h') : V G F Q (kc + 200) (ks + 1200) 1623 [some (.ref sb), some (.ref a), some (.ref b), some (.ref c), some (.int (nI (6 * k))), none, none, none, none] [] h := by
  obtain ⟨A, σ, P, r, B, x, u, md, hs, o, rfl, rfl, hC, hM, hR, hA, hy, ho, dAB, dAc, dBc⟩ := hI
  have k512 : k < 512 := by omega
  have hS : 999 * (k : Int) ≤ 1073741824 := by omega
  have hA1 : Am σ (999 * ((k + 1 : Nat) : Int)) := hA.up (by omega)
  have hy1 : gy σ ≤ 40 * (k + 1) := by omega
  refine V.run hF [(.aload_n 1, 1, .null), (.aload_n 0, 1, .null), (.iload 4, 2, .null), (.iconst 1, 1, .int (nI 1)), (.iadd, 1, .null)] (pc' := 1629) (L' := [some (.ref sb), some (.ref (A 0)), some (.ref (B 0)), some (.ref c), some (.int (nI (6 * k))), none, none, none, none]) (st' := [.int (nI (6 * k) + nI 1), .ref sb, .ref (A 0)]) (by decide +kernel) rfl ?_
  rw [nI_add (6 * k) 1]
  refine V.sld (j := 6 * k + 1) hF hX (by decide +kernel) (by omega) (by omega) ?_
  refine V.run hF [(.aload_n 3, 1, .null)] (pc' := 1631) (L' := [some (.ref sb), some (.ref (A 0)), some (.ref (B 0)), some (.ref c), some (.int (nI (6 * k))), none, none, none, none]) (st' := [.ref c, .int (xs (6 * k + 1)), .ref (A 0)]) (by decide +kernel) rfl ?_
  refine V.less (kc' := kc + 2) (ks' := ks + 12) (by omega) (by omega) ?_
  refine V.callSW (As := [.ref (A 0), .int (xs (6 * k + 1)), .ref c]) (st := []) hG hF k_RL_200 (by decide +kernel) (n_linesSmoothed hG hN hC ho dAc (xs (6 * k + 1))) rfl ⟨by rw [hRm]; decide, by rw [hRm]; decide⟩ (Nat.le_of_ble_eq_true rfl) rfl (fun v1 h1 hp => ?_) (fun E h9 hx => hx.elim)
  obtain ⟨k1, σ', A1, P1, r1, o1, rfl, s1, d1, hC1, ho1, e10, e11, e12⟩ := hp
  have hM1 := LI_B hM dAB dBc e12
  show V G F _ _ _ 1634 [some (.ref sb), some (.ref (A 0)), some (.ref (B 0)), some (.ref c), some (.int (nI (6 * k))), none, none, none, none] [.int k1] h1
  refine V.run hF [(.istore 5, 2, .null), (.aload_n 2, 1, .null), (.aload_n 0, 1, .null), (.iload 4, 2, .null), (.iconst 1, 1, .int (nI 1)), (.iadd, 1, .null)] (pc' := 1642) (L' := [some (.ref sb), some (.ref (A 0)), some (.ref (B 0)), some (.ref c), some (.int (nI (6 * k))), some (.int k1), none, none, none]) (st' := [.int (nI (6 * k) + nI 1), .ref sb, .ref (B 0)]) (by decide +kernel) rfl ?_
  rw [nI_add (6 * k) 1]
  refine V.sld (j := 6 * k + 1) hF hX (by decide +kernel) (by omega) (by omega) ?_
  refine V.callV (As := [.int (xs (6 * k + 1))]) (st := []) hG hF k_RL_202 (by decide +kernel) (m_linesSmoothed hG hM1 hR (PEA_of hR hA hS) (xs (6 * k + 1))) hM1.2.1 rfl rfl ⟨by rw [hRm]; decide, by rw [hRm]; decide⟩ (Nat.le_of_ble_eq_true rfl) rfl (fun v2 h2 hp2 => ?_) (fun E h9 hx => hx.elim)
  obtain ⟨k2, y, σ2, u2, md2, hs2, rfl, s2, d2, hR2, hM2, hk2⟩ := hp2
  have ek : k2 = k1 := st1_u s2 s1
  obtain ⟨rfl, jo, jA, jy⟩ := joinR (R := RI k) ek d1 d2 (fun z => by
    exact ⟨hA1, hy1⟩) ⟨hA1, hy1⟩
  have hL := LI_next hM ho dAB dAc dBc hC1 ho1 e10 e11 hR2 hM2 hk2 jA jy
  have ho2 : h2 c = some (out1 o1) := hk2 c _ ho1 (fun j hj q => dBc j hj q.symm)
  show V G F _ _ _ 1646 [some (.ref sb), some (.ref (A 0)), some (.ref (B 0)), some (.ref c), some (.int (nI (6 * k))), some (.int k1), none, none, none] [.int y] h2
  refine V.run hF [(.istore 6, 2, .null), (.aload_n 2, 1, .null)] (pc' := 1649) (L' := [some (.ref sb), some (.ref (A 0)), some (.ref (B 0)), some (.ref c), some (.int (nI (6 * k))), some (.int k1), some (.int y), none, none]) (st' := [.ref (B 0)]) (by decide +kernel) rfl ?_
  refine V.callV (As := []) (st := []) hG hF k_RL_103 (by decide +kernel) (c_X4_thrown hG hM2) hM2.2.1 rfl rfl ⟨by rw [hRm]; decide, by rw [hRm]; decide⟩ (Nat.le_of_ble_eq_true rfl) rfl (fun v h_3 gp3 => ?_) (fun E h9 hx => hx.elim)
  obtain ⟨rfl, he_gp3⟩ := gp3
  rw [he_gp3]
  show V G F _ _ _ 1652 [some (.ref sb), some (.ref (A 0)), some (.ref (B 0)), some (.ref c), some (.int (nI (6 * k))), some (.int k1), some (.int y), none, none] [.int k2] h2
  refine V.run hF [(.iload 5, 2, .null)] (pc' := 1654) (L' := [some (.ref sb), some (.ref (A 0)), some (.ref (B 0)), some (.ref c), some (.int (nI (6 * k))), some (.int k1), some (.int y), none, none]) (st' := [.int k1, .int k2]) (by decide +kernel) rfl ?_
  refine V.icmp_eq hF (off := 5) (tgt := 1659) (by decide +kernel) (by decide) (fun c1 => ?_) (fun c1 => ?_)
  · skip
    refine V.run hF [(.iload 5, 2, .null)] (pc' := 1661) (L' := [some (.ref sb), some (.ref (A 0)), some (.ref (B 0)), some (.ref c), some (.int (nI (6 * k))), some (.int k1), some (.int y), none, none]) (st' := [.int k1]) (by decide +kernel) rfl ?_
    refine V.if_ne hF (off := 15) (tgt := 1676) (by decide +kernel) (by decide) (fun c2 => ?_) (fun c2 => ?_)
    · skip
      refine V.run hF [(.goto 239, 3, .null), (.iinc 4 6, 3, .int 6), (.goto (-1895), 3, .null)] (pc' := 23) (L' := [some (.ref sb), some (.ref (A 0)), some (.ref (B 0)), some (.ref c), some (.int ((nI (6 * k)) + 6)), some (.int k1), some (.int y), none, none]) (st' := []) (by decide +kernel) rfl ?_
      rw [n6 k]
      exact ih _ hL _ _ _ _
    · skip
      refine V.run hF [(.aload_n 3, 1, .null), (.iconst 0, 1, .int (nI 0))] (pc' := 1666) (L' := [some (.ref sb), some (.ref (A 0)), some (.ref (B 0)), some (.ref c), some (.int (nI (6 * k))), some (.int k1), some (.int y), none, none]) (st' := [.int (nI 0), .ref c]) (by decide +kernel) rfl ?_
      refine V.laldN (j := 0) hG hF (by decide +kernel) ho2 (by omega) (by decide) ?_
      refine V.run hF [(.iload 6, 2, .null), (.i2l, 1, .null), (.lcmp, 1, .null)] (pc' := 1671) (L' := [some (.ref sb), some (.ref (A 0)), some (.ref (B 0)), some (.ref c), some (.int (nI (6 * k))), some (.int k1), some (.int y), none, none]) (st' := [.int (lg_cmp (o1 0) (Int32.toInt64 y))]) (by decide +kernel) rfl ?_
      rw [(lg_cmp_eq _ _).mpr (jo c2)]
      refine V.if_eq hF (off := 5) (tgt := 1676) (by decide +kernel) (by decide) (fun c3 => ?_) (fun c3 => ?_)
      · skip
        refine V.run hF [(.goto 239, 3, .null), (.iinc 4 6, 3, .int 6), (.goto (-1895), 3, .null)] (pc' := 23) (L' := [some (.ref sb), some (.ref (A 0)), some (.ref (B 0)), some (.ref c), some (.int ((nI (6 * k)) + 6)), some (.int k1), some (.int y), none, none]) (st' := []) (by decide +kernel) rfl ?_
        rw [n6 k]
        exact ih _ hL _ _ _ _
      · skip
        exact absurd rfl c3
  · skip
    exact absurd ek c1
set_option maxHeartbeats 8000000 in
theorem lc_bestToSmooth (hG : GOk G) (hN : GNc G) (hF : Ok G F RL cL_law 9 (some .boolean)) (hRm : fR F = { frames := 12, cells := 693274, slots := 7016281, locals := 448 }) (hX : SX G sb n xs) (hn : n ≤ 3072) (hi : 6 * k + 6 ≤ n) (hI : LI a b c k h) (ih : ∀ h', LI a b c (k + 1) h' → ∀ z5 z6 z7 z8, V G F Q kc ks 23 [some (.ref sb), some (.ref a), some (.ref b), some (.ref c), some (.int (nI (6 * (k + 1)))), z5, z6, z7, z8] [] h') : V G F Q (kc + 200) (ks + 1200) 1679 [some (.ref sb), some (.ref a), some (.ref b), some (.ref c), some (.int (nI (6 * k))), none, none, none, none] [] h := by
  obtain ⟨A, σ, P, r, B, x, u, md, hs, o, rfl, rfl, hC, hM, hR, hA, hy, ho, dAB, dAc, dBc⟩ := hI
  have k512 : k < 512 := by omega
  have hS : 999 * (k : Int) ≤ 1073741824 := by omega
  have hA1 : Am σ (999 * ((k + 1 : Nat) : Int)) := hA.up (by omega)
  have hy1 : gy σ ≤ 40 * (k + 1) := by omega
  refine V.less (kc' := kc) (ks' := ks) (by omega) (by omega) ?_
  refine V.run hF [(.aload_n 1, 1, .null)] (pc' := 1680) (L' := [some (.ref sb), some (.ref (A 0)), some (.ref (B 0)), some (.ref c), some (.int (nI (6 * k))), none, none, none, none]) (st' := [.ref (A 0)]) (by decide +kernel) rfl ?_
  refine V.callV (As := []) (st := []) hG hF k_RL_203 (by decide +kernel) (c_X3_bestToSmooth hG hC) hC.2.2.1 rfl rfl ⟨by rw [hRm]; decide, by rw [hRm]; decide⟩ (Nat.le_of_ble_eq_true rfl) rfl (fun v1 h1 hp => ?_) (fun E h9 hx => hx.elim)
  obtain ⟨rfl, T1, hC1, hk1⟩ := hp
  have e12 : ∀ q e, h q = some e → q ≠ c → (∀ i, i < nA σ → q ≠ A i) → h1 q = some e := fun q e he _ hA => (hk1 q hA).trans he
  have ho1 : h1 c = some (out1 o) := (hk1 c (fun i hi q => dAc i hi q.symm)).trans ho
  have hM1 := LI_B hM dAB dBc e12
  show V G F _ _ _ 1683 [some (.ref sb), some (.ref (A 0)), some (.ref (B 0)), some (.ref c), some (.int (nI (6 * k))), none, none, none, none] [.int ((bst σ 8).1)] h1
  refine V.run hF [(.aload_n 2, 1, .null)] (pc' := 1684) (L' := [some (.ref sb), some (.ref (A 0)), some (.ref (B 0)), some (.ref c), some (.int (nI (6 * k))), none, none, none, none]) (st' := [.ref (B 0), .int ((bst σ 8).1)]) (by decide +kernel) rfl ?_
  refine V.callV (As := []) (st := [.int ((bst σ 8).1)]) hG hF k_RL_206 (by decide +kernel) (c_X4_bestToSmooth hG hM1 hR (PEA_of hR hA hS)) hM1.2.1 rfl rfl ⟨by rw [hRm]; decide, by rw [hRm]; decide⟩ (Nat.le_of_ble_eq_true rfl) rfl (fun v2 h2 hp2 => ?_) (fun E h9 hx => hx.elim)
  obtain ⟨rfl, md2, hs2, hM2, hk2⟩ := hp2
  have hL := LI_next hM ho dAB dAc dBc hC1 ho1 rfl (fun i hi => Or.inl ⟨i, hi, rfl⟩) hR hM2 (kpN.rf.kB hk2) hA1 hy1
  show V G F _ _ _ 1687 [some (.ref sb), some (.ref (A 0)), some (.ref (B 0)), some (.ref c), some (.int (nI (6 * k))), none, none, none, none] [.int ((bst σ 8).1), .int ((bst σ 8).1)] h2
  refine V.icmp_eq hF (off := 228) (tgt := 1915) (by decide +kernel) (by decide) (fun c1 => ?_) (fun c1 => ?_)
  · skip
    refine V.run hF [(.iinc 4 6, 3, .int 6), (.goto (-1895), 3, .null)] (pc' := 23) (L' := [some (.ref sb), some (.ref (A 0)), some (.ref (B 0)), some (.ref c), some (.int ((nI (6 * k)) + 6)), none, none, none, none]) (st' := []) (by decide +kernel) rfl ?_
    rw [n6 k]
    exact ih _ hL _ _ _ _
  · skip
    exact absurd rfl c1
set_option maxHeartbeats 8000000 in
theorem lc_atRisk (hG : GOk G) (hN : GNc G) (hF : Ok G F RL cL_law 9 (some .boolean)) (hRm : fR F = { frames := 12, cells := 693274, slots := 7016281, locals := 448 }) (hX : SX G sb n xs) (hn : n ≤ 3072) (hi : 6 * k + 6 ≤ n) (hI : LI a b c k h) (ih : ∀ h', LI a b c (k + 1) h' → ∀ z5 z6 z7 z8, V G F Q kc ks 23 [some (.ref sb), some (.ref a), some (.ref b), some (.ref c), some (.int (nI (6 * (k + 1)))), z5, z6, z7, z8] [] h') : V G F Q (kc + 200) (ks + 1200) 1692 [some (.ref sb), some (.ref a), some (.ref b), some (.ref c), some (.int (nI (6 * k))), none, none, none, none] [] h := by
  obtain ⟨A, σ, P, r, B, x, u, md, hs, o, rfl, rfl, hC, hM, hR, hA, hy, ho, dAB, dAc, dBc⟩ := hI
  have k512 : k < 512 := by omega
  have hS : 999 * (k : Int) ≤ 1073741824 := by omega
  have hA1 : Am σ (999 * ((k + 1 : Nat) : Int)) := hA.up (by omega)
  have hy1 : gy σ ≤ 40 * (k + 1) := by omega
  refine V.run hF [(.aload_n 1, 1, .null), (.aload_n 0, 1, .null), (.iload 4, 2, .null), (.iconst 1, 1, .int (nI 1)), (.iadd, 1, .null)] (pc' := 1698) (L' := [some (.ref sb), some (.ref (A 0)), some (.ref (B 0)), some (.ref c), some (.int (nI (6 * k))), none, none, none, none]) (st' := [.int (nI (6 * k) + nI 1), .ref sb, .ref (A 0)]) (by decide +kernel) rfl ?_
  rw [nI_add (6 * k) 1]
  refine V.sld (j := 6 * k + 1) hF hX (by decide +kernel) (by omega) (by omega) ?_
  refine V.run hF [(.aload_n 3, 1, .null)] (pc' := 1700) (L' := [some (.ref sb), some (.ref (A 0)), some (.ref (B 0)), some (.ref c), some (.int (nI (6 * k))), none, none, none, none]) (st' := [.ref c, .int (xs (6 * k + 1)), .ref (A 0)]) (by decide +kernel) rfl ?_
  refine V.less (kc' := kc + 1) (ks' := ks + 6) (by omega) (by omega) ?_
  refine V.callSW (As := [.ref (A 0), .int (xs (6 * k + 1)), .ref c]) (st := []) hG hF k_RL_207 (by decide +kernel) (n_atRisk hG hN hC ho dAc (xs (6 * k + 1))) rfl ⟨by rw [hRm]; decide, by rw [hRm]; decide⟩ (Nat.le_of_ble_eq_true rfl) rfl (fun v1 h1 hp => ?_) (fun E h9 hx => hx.elim)
  obtain ⟨k1, σ', A1, P1, r1, o1, rfl, s1, d1, hC1, ho1, e10, e11, e12⟩ := hp
  have hM1 := LI_B hM dAB dBc e12
  show V G F _ _ _ 1703 [some (.ref sb), some (.ref (A 0)), some (.ref (B 0)), some (.ref c), some (.int (nI (6 * k))), none, none, none, none] [.int k1] h1
  refine V.run hF [(.istore 5, 2, .null), (.aload_n 2, 1, .null), (.aload_n 0, 1, .null), (.iload 4, 2, .null), (.iconst 1, 1, .int (nI 1)), (.iadd, 1, .null)] (pc' := 1711) (L' := [some (.ref sb), some (.ref (A 0)), some (.ref (B 0)), some (.ref c), some (.int (nI (6 * k))), some (.int k1), none, none, none]) (st' := [.int (nI (6 * k) + nI 1), .ref sb, .ref (B 0)]) (by decide +kernel) rfl ?_
  rw [nI_add (6 * k) 1]
  refine V.sld (j := 6 * k + 1) hF hX (by decide +kernel) (by omega) (by omega) ?_
  refine V.callV (As := [.int (xs (6 * k + 1))]) (st := []) hG hF k_RL_209 (by decide +kernel) (m_atRisk hG hM1 hR (xs (6 * k + 1))) hM1.2.1 rfl rfl ⟨by rw [hRm]; decide, by rw [hRm]; decide⟩ (Nat.le_of_ble_eq_true rfl) rfl (fun v2 h2 hp2 => ?_) (fun E h9 hx => hx.elim)
  obtain ⟨k2, y, σ2, u2, md2, hs2, rfl, s2, d2, hR2, hM2, hk2⟩ := hp2
  have ek : k2 = k1 := st1_u s2 s1
  obtain ⟨rfl, jo, jA, jy⟩ := joinR (R := RI k) ek d1 d2 (fun z => by
    exact ⟨hA1, hy1⟩) ⟨hA1, hy1⟩
  have hL := LI_next hM ho dAB dAc dBc hC1 ho1 e10 e11 hR2 hM2 hk2 jA jy
  have ho2 : h2 c = some (out1 o1) := hk2 c _ ho1 (fun j hj q => dBc j hj q.symm)
  show V G F _ _ _ 1715 [some (.ref sb), some (.ref (A 0)), some (.ref (B 0)), some (.ref c), some (.int (nI (6 * k))), some (.int k1), none, none, none] [.int y] h2
  refine V.run hF [(.istore 6, 2, .null), (.aload_n 2, 1, .null)] (pc' := 1718) (L' := [some (.ref sb), some (.ref (A 0)), some (.ref (B 0)), some (.ref c), some (.int (nI (6 * k))), some (.int k1), some (.int y), none, none]) (st' := [.ref (B 0)]) (by decide +kernel) rfl ?_
  refine V.callV (As := []) (st := []) hG hF k_RL_103 (by decide +kernel) (c_X4_thrown hG hM2) hM2.2.1 rfl rfl ⟨by rw [hRm]; decide, by rw [hRm]; decide⟩ (Nat.le_of_ble_eq_true rfl) rfl (fun v h_3 gp3 => ?_) (fun E h9 hx => hx.elim)
  obtain ⟨rfl, he_gp3⟩ := gp3
  rw [he_gp3]
  show V G F _ _ _ 1721 [some (.ref sb), some (.ref (A 0)), some (.ref (B 0)), some (.ref c), some (.int (nI (6 * k))), some (.int k1), some (.int y), none, none] [.int k2] h2
  refine V.run hF [(.iload 5, 2, .null)] (pc' := 1723) (L' := [some (.ref sb), some (.ref (A 0)), some (.ref (B 0)), some (.ref c), some (.int (nI (6 * k))), some (.int k1), some (.int y), none, none]) (st' := [.int k1, .int k2]) (by decide +kernel) rfl ?_
  refine V.icmp_eq hF (off := 5) (tgt := 1728) (by decide +kernel) (by decide) (fun c1 => ?_) (fun c1 => ?_)
  · skip
    refine V.run hF [(.iload 5, 2, .null)] (pc' := 1730) (L' := [some (.ref sb), some (.ref (A 0)), some (.ref (B 0)), some (.ref c), some (.int (nI (6 * k))), some (.int k1), some (.int y), none, none]) (st' := [.int k1]) (by decide +kernel) rfl ?_
    refine V.if_ne hF (off := 15) (tgt := 1745) (by decide +kernel) (by decide) (fun c2 => ?_) (fun c2 => ?_)
    · skip
      refine V.run hF [(.goto 170, 3, .null), (.iinc 4 6, 3, .int 6), (.goto (-1895), 3, .null)] (pc' := 23) (L' := [some (.ref sb), some (.ref (A 0)), some (.ref (B 0)), some (.ref c), some (.int ((nI (6 * k)) + 6)), some (.int k1), some (.int y), none, none]) (st' := []) (by decide +kernel) rfl ?_
      rw [n6 k]
      exact ih _ hL _ _ _ _
    · skip
      refine V.run hF [(.aload_n 3, 1, .null), (.iconst 0, 1, .int (nI 0))] (pc' := 1735) (L' := [some (.ref sb), some (.ref (A 0)), some (.ref (B 0)), some (.ref c), some (.int (nI (6 * k))), some (.int k1), some (.int y), none, none]) (st' := [.int (nI 0), .ref c]) (by decide +kernel) rfl ?_
      refine V.laldN (j := 0) hG hF (by decide +kernel) ho2 (by omega) (by decide) ?_
      refine V.run hF [(.iload 6, 2, .null), (.i2l, 1, .null), (.lcmp, 1, .null)] (pc' := 1740) (L' := [some (.ref sb), some (.ref (A 0)), some (.ref (B 0)), some (.ref c), some (.int (nI (6 * k))), some (.int k1), some (.int y), none, none]) (st' := [.int (lg_cmp (o1 0) (Int32.toInt64 y))]) (by decide +kernel) rfl ?_
      rw [(lg_cmp_eq _ _).mpr (jo c2)]
      refine V.if_eq hF (off := 5) (tgt := 1745) (by decide +kernel) (by decide) (fun c3 => ?_) (fun c3 => ?_)
      · skip
        refine V.run hF [(.goto 170, 3, .null), (.iinc 4 6, 3, .int 6), (.goto (-1895), 3, .null)] (pc' := 23) (L' := [some (.ref sb), some (.ref (A 0)), some (.ref (B 0)), some (.ref c), some (.int ((nI (6 * k)) + 6)), some (.int k1), some (.int y), none, none]) (st' := []) (by decide +kernel) rfl ?_
        rw [n6 k]
        exact ih _ hL _ _ _ _
      · skip
        exact absurd rfl c3
  · skip
    exact absurd ek c1
set_option maxHeartbeats 8000000 in
theorem lc_yearsUntilMelted (hG : GOk G) (hN : GNc G) (hF : Ok G F RL cL_law 9 (some .boolean)) (hRm : fR F = { frames := 12, cells := 693274, slots := 7016281, locals := 448 }) (hX : SX G sb n xs) (hn : n ≤ 3072) (hi : 6 * k + 6 ≤ n) (hI : LI a b c k h) (ih : ∀ h', LI a b c (k + 1) h' → ∀ z5 z6 z7 z8, V G F Q kc ks 23 [some (.ref sb), some (.ref a), some (.ref b), some (.ref c), some (.int (nI (6 * (k + 1)))), z5, z6, z7, z8] [] h') : V G F Q (kc + 200) (ks + 1200) 1748 [some (.ref sb), some (.ref a), some (.ref b), some (.ref c), some (.int (nI (6 * k))), none, none, none, none] [] h := by
  obtain ⟨A, σ, P, r, B, x, u, md, hs, o, rfl, rfl, hC, hM, hR, hA, hy, ho, dAB, dAc, dBc⟩ := hI
  have k512 : k < 512 := by omega
  have hS : 999 * (k : Int) ≤ 1073741824 := by omega
  have hA1 : Am σ (999 * ((k + 1 : Nat) : Int)) := hA.up (by omega)
  have hy1 : gy σ ≤ 40 * (k + 1) := by omega
  refine V.run hF [(.aload_n 1, 1, .null), (.aload_n 0, 1, .null), (.iload 4, 2, .null), (.iconst 1, 1, .int (nI 1)), (.iadd, 1, .null)] (pc' := 1754) (L' := [some (.ref sb), some (.ref (A 0)), some (.ref (B 0)), some (.ref c), some (.int (nI (6 * k))), none, none, none, none]) (st' := [.int (nI (6 * k) + nI 1), .ref sb, .ref (A 0)]) (by decide +kernel) rfl ?_
  rw [nI_add (6 * k) 1]
  refine V.sld (j := 6 * k + 1) hF hX (by decide +kernel) (by omega) (by omega) ?_
  refine V.run hF [(.aload_n 3, 1, .null)] (pc' := 1756) (L' := [some (.ref sb), some (.ref (A 0)), some (.ref (B 0)), some (.ref c), some (.int (nI (6 * k))), none, none, none, none]) (st' := [.ref c, .int (xs (6 * k + 1)), .ref (A 0)]) (by decide +kernel) rfl ?_
  refine V.less (kc' := kc + 2) (ks' := ks + 12) (by omega) (by omega) ?_
  refine V.callSW (As := [.ref (A 0), .int (xs (6 * k + 1)), .ref c]) (st := []) hG hF k_RL_210 (by decide +kernel) (n_yearsUntilMelted hG hN hC ho dAc (by omega) (xs (6 * k + 1))) rfl ⟨by rw [hRm]; decide, by rw [hRm]; decide⟩ (Nat.le_of_ble_eq_true rfl) rfl (fun v1 h1 hp => ?_) (fun E h9 hx => hx.elim)
  obtain ⟨k1, σ', A1, P1, r1, o1, rfl, s1, d1, hC1, ho1, e10, e11, e12⟩ := hp
  have hM1 := LI_B hM dAB dBc e12
  show V G F _ _ _ 1759 [some (.ref sb), some (.ref (A 0)), some (.ref (B 0)), some (.ref c), some (.int (nI (6 * k))), none, none, none, none] [.int k1] h1
  refine V.run hF [(.istore 5, 2, .null), (.aload_n 2, 1, .null), (.aload_n 0, 1, .null), (.iload 4, 2, .null), (.iconst 1, 1, .int (nI 1)), (.iadd, 1, .null)] (pc' := 1767) (L' := [some (.ref sb), some (.ref (A 0)), some (.ref (B 0)), some (.ref c), some (.int (nI (6 * k))), some (.int k1), none, none, none]) (st' := [.int (nI (6 * k) + nI 1), .ref sb, .ref (B 0)]) (by decide +kernel) rfl ?_
  rw [nI_add (6 * k) 1]
  refine V.sld (j := 6 * k + 1) hF hX (by decide +kernel) (by omega) (by omega) ?_
  refine V.callV (As := [.int (xs (6 * k + 1))]) (st := []) hG hF k_RL_212 (by decide +kernel) (m_yearsUntilMelted hG hM1 hR (by omega) (xs (6 * k + 1))) hM1.2.1 rfl rfl ⟨by rw [hRm]; decide, by rw [hRm]; decide⟩ (Nat.le_of_ble_eq_true rfl) rfl (fun v2 h2 hp2 => ?_) (fun E h9 hx => hx.elim)
  obtain ⟨k2, y, σ2, u2, md2, hs2, rfl, s2, d2, hR2, hM2, hk2⟩ := hp2
  have ek : k2 = k1 := st1_u s2 s1
  obtain ⟨rfl, jo, jA, jy⟩ := joinR (R := RI k) ek d1 d2 (fun z => by
    exact ⟨hA1, hy1⟩) ⟨hA1, hy1⟩
  have hL := LI_next hM ho dAB dAc dBc hC1 ho1 e10 e11 hR2 hM2 hk2 jA jy
  have ho2 : h2 c = some (out1 o1) := hk2 c _ ho1 (fun j hj q => dBc j hj q.symm)
  show V G F _ _ _ 1771 [some (.ref sb), some (.ref (A 0)), some (.ref (B 0)), some (.ref c), some (.int (nI (6 * k))), some (.int k1), none, none, none] [.int y] h2
  refine V.run hF [(.istore 6, 2, .null), (.aload_n 2, 1, .null)] (pc' := 1774) (L' := [some (.ref sb), some (.ref (A 0)), some (.ref (B 0)), some (.ref c), some (.int (nI (6 * k))), some (.int k1), some (.int y), none, none]) (st' := [.ref (B 0)]) (by decide +kernel) rfl ?_
  refine V.callV (As := []) (st := []) hG hF k_RL_103 (by decide +kernel) (c_X4_thrown hG hM2) hM2.2.1 rfl rfl ⟨by rw [hRm]; decide, by rw [hRm]; decide⟩ (Nat.le_of_ble_eq_true rfl) rfl (fun v h_3 gp3 => ?_) (fun E h9 hx => hx.elim)
  obtain ⟨rfl, he_gp3⟩ := gp3
  rw [he_gp3]
  show V G F _ _ _ 1777 [some (.ref sb), some (.ref (A 0)), some (.ref (B 0)), some (.ref c), some (.int (nI (6 * k))), some (.int k1), some (.int y), none, none] [.int k2] h2
  refine V.run hF [(.iload 5, 2, .null)] (pc' := 1779) (L' := [some (.ref sb), some (.ref (A 0)), some (.ref (B 0)), some (.ref c), some (.int (nI (6 * k))), some (.int k1), some (.int y), none, none]) (st' := [.int k1, .int k2]) (by decide +kernel) rfl ?_
  refine V.icmp_eq hF (off := 5) (tgt := 1784) (by decide +kernel) (by decide) (fun c1 => ?_) (fun c1 => ?_)
  · skip
    refine V.run hF [(.iload 5, 2, .null)] (pc' := 1786) (L' := [some (.ref sb), some (.ref (A 0)), some (.ref (B 0)), some (.ref c), some (.int (nI (6 * k))), some (.int k1), some (.int y), none, none]) (st' := [.int k1]) (by decide +kernel) rfl ?_
    refine V.if_ne hF (off := 15) (tgt := 1801) (by decide +kernel) (by decide) (fun c2 => ?_) (fun c2 => ?_)
    · skip
      refine V.run hF [(.goto 114, 3, .null), (.iinc 4 6, 3, .int 6), (.goto (-1895), 3, .null)] (pc' := 23) (L' := [some (.ref sb), some (.ref (A 0)), some (.ref (B 0)), some (.ref c), some (.int ((nI (6 * k)) + 6)), some (.int k1), some (.int y), none, none]) (st' := []) (by decide +kernel) rfl ?_
      rw [n6 k]
      exact ih _ hL _ _ _ _
    · skip
      refine V.run hF [(.aload_n 3, 1, .null), (.iconst 0, 1, .int (nI 0))] (pc' := 1791) (L' := [some (.ref sb), some (.ref (A 0)), some (.ref (B 0)), some (.ref c), some (.int (nI (6 * k))), some (.int k1), some (.int y), none, none]) (st' := [.int (nI 0), .ref c]) (by decide +kernel) rfl ?_
      refine V.laldN (j := 0) hG hF (by decide +kernel) ho2 (by omega) (by decide) ?_
      refine V.run hF [(.iload 6, 2, .null), (.i2l, 1, .null), (.lcmp, 1, .null)] (pc' := 1796) (L' := [some (.ref sb), some (.ref (A 0)), some (.ref (B 0)), some (.ref c), some (.int (nI (6 * k))), some (.int k1), some (.int y), none, none]) (st' := [.int (lg_cmp (o1 0) (Int32.toInt64 y))]) (by decide +kernel) rfl ?_
      rw [(lg_cmp_eq _ _).mpr (jo c2)]
      refine V.if_eq hF (off := 5) (tgt := 1801) (by decide +kernel) (by decide) (fun c3 => ?_) (fun c3 => ?_)
      · skip
        refine V.run hF [(.goto 114, 3, .null), (.iinc 4 6, 3, .int 6), (.goto (-1895), 3, .null)] (pc' := 23) (L' := [some (.ref sb), some (.ref (A 0)), some (.ref (B 0)), some (.ref c), some (.int ((nI (6 * k)) + 6)), some (.int k1), some (.int y), none, none]) (st' := []) (by decide +kernel) rfl ?_
        rw [n6 k]
        exact ih _ hL _ _ _ _
      · skip
        exact absurd rfl c3
  · skip
    exact absurd ek c1
set_option maxHeartbeats 8000000 in
theorem lc_meltsIn (hG : GOk G) (hN : GNc G) (hF : Ok G F RL cL_law 9 (some .boolean)) (hRm : fR F = { frames := 12, cells := 693274, slots := 7016281, locals := 448 }) (hX : SX G sb n xs) (hn : n ≤ 3072) (hi : 6 * k + 6 ≤ n) (hI : LI a b c k h) (ih : ∀ h', LI a b c (k + 1) h' → ∀ z5 z6 z7 z8, V G F Q kc ks 23 [some (.ref sb), some (.ref a), some (.ref b), some (.ref c), some (.int (nI (6 * (k + 1)))), z5, z6, z7, z8] [] h') : V G F Q (kc + 200) (ks + 1200) 1804 [some (.ref sb), some (.ref a), some (.ref b), some (.ref c), some (.int (nI (6 * k))), none, none, none, none] [] h := by
  obtain ⟨A, σ, P, r, B, x, u, md, hs, o, rfl, rfl, hC, hM, hR, hA, hy, ho, dAB, dAc, dBc⟩ := hI
  have k512 : k < 512 := by omega
  have hS : 999 * (k : Int) ≤ 1073741824 := by omega
  have hA1 : Am σ (999 * ((k + 1 : Nat) : Int)) := hA.up (by omega)
  have hy1 : gy σ ≤ 40 * (k + 1) := by omega
  refine V.run hF [(.aload_n 1, 1, .null), (.aload_n 0, 1, .null), (.iload 4, 2, .null), (.iconst 1, 1, .int (nI 1)), (.iadd, 1, .null)] (pc' := 1810) (L' := [some (.ref sb), some (.ref (A 0)), some (.ref (B 0)), some (.ref c), some (.int (nI (6 * k))), none, none, none, none]) (st' := [.int (nI (6 * k) + nI 1), .ref sb, .ref (A 0)]) (by decide +kernel) rfl ?_
  rw [nI_add (6 * k) 1]
  refine V.sld (j := 6 * k + 1) hF hX (by decide +kernel) (by omega) (by omega) ?_
  refine V.run hF [(.aload_n 3, 1, .null)] (pc' := 1812) (L' := [some (.ref sb), some (.ref (A 0)), some (.ref (B 0)), some (.ref c), some (.int (nI (6 * k))), none, none, none, none]) (st' := [.ref c, .int (xs (6 * k + 1)), .ref (A 0)]) (by decide +kernel) rfl ?_
  refine V.less (kc' := kc + 1) (ks' := ks + 6) (by omega) (by omega) ?_
  refine V.callSW (As := [.ref (A 0), .int (xs (6 * k + 1)), .ref c]) (st := []) hG hF k_RL_213 (by decide +kernel) (n_meltsIn hG hN hC ho dAc (by omega) (xs (6 * k + 1))) rfl ⟨by rw [hRm]; decide, by rw [hRm]; decide⟩ (Nat.le_of_ble_eq_true rfl) rfl (fun v1 h1 hp => ?_) (fun E h9 hx => hx.elim)
  obtain ⟨k1, σ', A1, P1, r1, o1, rfl, s1, d1, hC1, ho1, e10, e11, e12⟩ := hp
  have hM1 := LI_B hM dAB dBc e12
  show V G F _ _ _ 1815 [some (.ref sb), some (.ref (A 0)), some (.ref (B 0)), some (.ref c), some (.int (nI (6 * k))), none, none, none, none] [.int k1] h1
  refine V.run hF [(.istore 5, 2, .null), (.aload_n 2, 1, .null), (.aload_n 0, 1, .null), (.iload 4, 2, .null), (.iconst 1, 1, .int (nI 1)), (.iadd, 1, .null)] (pc' := 1823) (L' := [some (.ref sb), some (.ref (A 0)), some (.ref (B 0)), some (.ref c), some (.int (nI (6 * k))), some (.int k1), none, none, none]) (st' := [.int (nI (6 * k) + nI 1), .ref sb, .ref (B 0)]) (by decide +kernel) rfl ?_
  rw [nI_add (6 * k) 1]
  refine V.sld (j := 6 * k + 1) hF hX (by decide +kernel) (by omega) (by omega) ?_
  refine V.callV (As := [.int (xs (6 * k + 1))]) (st := []) hG hF k_RL_215 (by decide +kernel) (m_meltsIn hG hM1 hR (by omega) (xs (6 * k + 1))) hM1.2.1 rfl rfl ⟨by rw [hRm]; decide, by rw [hRm]; decide⟩ (Nat.le_of_ble_eq_true rfl) rfl (fun v2 h2 hp2 => ?_) (fun E h9 hx => hx.elim)
  obtain ⟨k2, y, σ2, u2, md2, hs2, rfl, s2, d2, hR2, hM2, hk2⟩ := hp2
  have ek : k2 = k1 := st1_u s2 s1
  obtain ⟨rfl, jo, jA, jy⟩ := joinR (R := RI k) ek d1 d2 (fun z => by
    exact ⟨hA1, hy1⟩) ⟨hA1, hy1⟩
  have hL := LI_next hM ho dAB dAc dBc hC1 ho1 e10 e11 hR2 hM2 hk2 jA jy
  have ho2 : h2 c = some (out1 o1) := hk2 c _ ho1 (fun j hj q => dBc j hj q.symm)
  show V G F _ _ _ 1827 [some (.ref sb), some (.ref (A 0)), some (.ref (B 0)), some (.ref c), some (.int (nI (6 * k))), some (.int k1), none, none, none] [.int y] h2
  refine V.run hF [(.istore 6, 2, .null), (.aload_n 2, 1, .null)] (pc' := 1830) (L' := [some (.ref sb), some (.ref (A 0)), some (.ref (B 0)), some (.ref c), some (.int (nI (6 * k))), some (.int k1), some (.int y), none, none]) (st' := [.ref (B 0)]) (by decide +kernel) rfl ?_
  refine V.callV (As := []) (st := []) hG hF k_RL_103 (by decide +kernel) (c_X4_thrown hG hM2) hM2.2.1 rfl rfl ⟨by rw [hRm]; decide, by rw [hRm]; decide⟩ (Nat.le_of_ble_eq_true rfl) rfl (fun v h_3 gp3 => ?_) (fun E h9 hx => hx.elim)
  obtain ⟨rfl, he_gp3⟩ := gp3
  rw [he_gp3]
  show V G F _ _ _ 1833 [some (.ref sb), some (.ref (A 0)), some (.ref (B 0)), some (.ref c), some (.int (nI (6 * k))), some (.int k1), some (.int y), none, none] [.int k2] h2
  refine V.run hF [(.iload 5, 2, .null)] (pc' := 1835) (L' := [some (.ref sb), some (.ref (A 0)), some (.ref (B 0)), some (.ref c), some (.int (nI (6 * k))), some (.int k1), some (.int y), none, none]) (st' := [.int k1, .int k2]) (by decide +kernel) rfl ?_
  refine V.icmp_eq hF (off := 5) (tgt := 1840) (by decide +kernel) (by decide) (fun c1 => ?_) (fun c1 => ?_)
  · skip
    refine V.run hF [(.iload 5, 2, .null)] (pc' := 1842) (L' := [some (.ref sb), some (.ref (A 0)), some (.ref (B 0)), some (.ref c), some (.int (nI (6 * k))), some (.int k1), some (.int y), none, none]) (st' := [.int k1]) (by decide +kernel) rfl ?_
    refine V.if_ne hF (off := 15) (tgt := 1857) (by decide +kernel) (by decide) (fun c2 => ?_) (fun c2 => ?_)
    · skip
      refine V.run hF [(.goto 58, 3, .null), (.iinc 4 6, 3, .int 6), (.goto (-1895), 3, .null)] (pc' := 23) (L' := [some (.ref sb), some (.ref (A 0)), some (.ref (B 0)), some (.ref c), some (.int ((nI (6 * k)) + 6)), some (.int k1), some (.int y), none, none]) (st' := []) (by decide +kernel) rfl ?_
      rw [n6 k]
      exact ih _ hL _ _ _ _
    · skip
      refine V.run hF [(.aload_n 3, 1, .null), (.iconst 0, 1, .int (nI 0))] (pc' := 1847) (L' := [some (.ref sb), some (.ref (A 0)), some (.ref (B 0)), some (.ref c), some (.int (nI (6 * k))), some (.int k1), some (.int y), none, none]) (st' := [.int (nI 0), .ref c]) (by decide +kernel) rfl ?_
      refine V.laldN (j := 0) hG hF (by decide +kernel) ho2 (by omega) (by decide) ?_
      refine V.run hF [(.iload 6, 2, .null), (.i2l, 1, .null), (.lcmp, 1, .null)] (pc' := 1852) (L' := [some (.ref sb), some (.ref (A 0)), some (.ref (B 0)), some (.ref c), some (.int (nI (6 * k))), some (.int k1), some (.int y), none, none]) (st' := [.int (lg_cmp (o1 0) (Int32.toInt64 y))]) (by decide +kernel) rfl ?_
      rw [(lg_cmp_eq _ _).mpr (jo c2)]
      refine V.if_eq hF (off := 5) (tgt := 1857) (by decide +kernel) (by decide) (fun c3 => ?_) (fun c3 => ?_)
      · skip
        refine V.run hF [(.goto 58, 3, .null), (.iinc 4 6, 3, .int 6), (.goto (-1895), 3, .null)] (pc' := 23) (L' := [some (.ref sb), some (.ref (A 0)), some (.ref (B 0)), some (.ref c), some (.int ((nI (6 * k)) + 6)), some (.int k1), some (.int y), none, none]) (st' := []) (by decide +kernel) rfl ?_
        rw [n6 k]
        exact ih _ hL _ _ _ _
      · skip
        exact absurd rfl c3
  · skip
    exact absurd ek c1
set_option maxHeartbeats 8000000 in
theorem lc_meanAmount (hG : GOk G) (hN : GNc G) (hF : Ok G F RL cL_law 9 (some .boolean)) (hRm : fR F = { frames := 12, cells := 693274, slots := 7016281, locals := 448 }) (hX : SX G sb n xs) (hn : n ≤ 3072) (hi : 6 * k + 6 ≤ n) (hI : LI a b c k h) (ih : ∀ h', LI a b c (k + 1) h' → ∀ z5 z6 z7 z8, V G F Q kc ks 23 [some (.ref sb), some (.ref a), some (.ref b), some (.ref c), some (.int (nI (6 * (k + 1)))), z5, z6, z7, z8] [] h') : V G F Q (kc + 200) (ks + 1200) 1860 [some (.ref sb), some (.ref a), some (.ref b), some (.ref c), some (.int (nI (6 * k))), none, none, none, none] [] h := by
  obtain ⟨A, σ, P, r, B, x, u, md, hs, o, rfl, rfl, hC, hM, hR, hA, hy, ho, dAB, dAc, dBc⟩ := hI
  have k512 : k < 512 := by omega
  have hS : 999 * (k : Int) ≤ 1073741824 := by omega
  have hA1 : Am σ (999 * ((k + 1 : Nat) : Int)) := hA.up (by omega)
  have hy1 : gy σ ≤ 40 * (k + 1) := by omega
  refine V.less (kc' := kc) (ks' := ks) (by omega) (by omega) ?_
  obtain ⟨m, em⟩ : ∃ m, m = mn (gLn σ (gT σ)) (gTo σ (gT σ)) := ⟨_, rfl⟩
  refine V.run hF [(.aload_n 1, 1, .null)] (pc' := 1861) (L' := [some (.ref sb), some (.ref (A 0)), some (.ref (B 0)), some (.ref c), some (.int (nI (6 * k))), none, none, none, none]) (st' := [.ref (A 0)]) (by decide +kernel) rfl ?_
  refine V.callV (As := []) (st := []) hG hF k_RL_216 (by decide +kernel) (c_X3_meanAmount hG hC) hC.2.2.1 rfl rfl ⟨by rw [hRm]; decide, by rw [hRm]; decide⟩ (Nat.le_of_ble_eq_true rfl) rfl (fun v1 h1 hp => ?_) (fun E h9 hx => hx.elim)
  obtain ⟨rfl, he⟩ := hp
  rw [he, ← em]
  show V G F _ _ _ 1864 [some (.ref sb), some (.ref (A 0)), some (.ref (B 0)), some (.ref c), some (.int (nI (6 * k))), none, none, none, none] [.double m] h
  refine V.run hF [(.dstore 5, 2, .null), (.aload_n 2, 1, .null)] (pc' := 1867) (L' := [some (.ref sb), some (.ref (A 0)), some (.ref (B 0)), some (.ref c), some (.int (nI (6 * k))), some (.double m), none, none, none]) (st' := [.ref (B 0)]) (by decide +kernel) rfl ?_
  refine V.callV (As := []) (st := []) hG hF k_RL_220 (by decide +kernel) (c_X4_meanAmount hG hM hR) hM.2.1 rfl rfl ⟨by rw [hRm]; decide, by rw [hRm]; decide⟩ (Nat.le_of_ble_eq_true rfl) rfl (fun v2 h2 hp2 => ?_) (fun E h9 hx => hx.elim)
  obtain ⟨rfl, md2, hs2, hM2, hk2⟩ := hp2
  have hL := LI_next hM ho dAB dAc dBc hC ho rfl (fun i hi => Or.inl ⟨i, hi, rfl⟩) hR hM2 (kpN.rf.kB hk2) hA1 hy1
  rw [← em]
  show V G F _ _ _ 1870 [some (.ref sb), some (.ref (A 0)), some (.ref (B 0)), some (.ref c), some (.int (nI (6 * k))), some (.double m), none, none, none] [.double m] h2
  refine V.run hF [(.dstore 7, 2, .null), (.dload 5, 2, .null), (.dload 7, 2, .null), (.dcmp .l, 1, .null)] (pc' := 1877) (L' := [some (.ref sb), some (.ref (A 0)), some (.ref (B 0)), some (.ref c), some (.int (nI (6 * k))), some (.double m), none, some (.double m), none]) (st' := [.int (Op.cmpValue (FP.dcmp m m) .l)]) (by decide +kernel) rfl ?_
  refine V.if_eq hF (off := 21) (tgt := 1898) (by decide +kernel) (by decide) (fun c1 => ?_) (fun c1 => ?_)
  · skip
    refine V.run hF [(.goto 17, 3, .null), (.iinc 4 6, 3, .int 6), (.goto (-1895), 3, .null)] (pc' := 23) (L' := [some (.ref sb), some (.ref (A 0)), some (.ref (B 0)), some (.ref c), some (.int ((nI (6 * k)) + 6)), some (.double m), none, some (.double m), none]) (st' := []) (by decide +kernel) rfl ?_
    rw [n6 k]
    exact ih _ hL _ _ _ _
  · skip
    refine V.run hF [(.dload 5, 2, .null), (.dload 5, 2, .null), (.dcmp .l, 1, .null)] (pc' := 1885) (L' := [some (.ref sb), some (.ref (A 0)), some (.ref (B 0)), some (.ref c), some (.int (nI (6 * k))), some (.double m), none, some (.double m), none]) (st' := [.int (Op.cmpValue (FP.dcmp m m) .l)]) (by decide +kernel) rfl ?_
    refine V.if_eq hF (off := 11) (tgt := 1896) (by decide +kernel) (by decide) (fun c2 => ?_) (fun c2 => ?_)
    · exact absurd c2 c1
    · skip
      refine V.run hF [(.dload 7, 2, .null), (.dload 7, 2, .null), (.dcmp .l, 1, .null)] (pc' := 1893) (L' := [some (.ref sb), some (.ref (A 0)), some (.ref (B 0)), some (.ref c), some (.int (nI (6 * k))), some (.double m), none, some (.double m), none]) (st' := [.int (Op.cmpValue (FP.dcmp m m) .l)]) (by decide +kernel) rfl ?_
      refine V.if_ne hF (off := 5) (tgt := 1898) (by decide +kernel) (by decide) (fun c3 => ?_) (fun c3 => ?_)
      · skip
        refine V.run hF [(.goto 17, 3, .null), (.iinc 4 6, 3, .int 6), (.goto (-1895), 3, .null)] (pc' := 23) (L' := [some (.ref sb), some (.ref (A 0)), some (.ref (B 0)), some (.ref c), some (.int ((nI (6 * k)) + 6)), some (.double m), none, some (.double m), none]) (st' := []) (by decide +kernel) rfl ?_
        rw [n6 k]
        exact ih _ hL _ _ _ _
      · skip
        exact absurd c3 c1
set_option maxHeartbeats 8000000 in
theorem lc_digest (hG : GOk G) (hN : GNc G) (hF : Ok G F RL cL_law 9 (some .boolean)) (hRm : fR F = { frames := 12, cells := 693274, slots := 7016281, locals := 448 }) (hX : SX G sb n xs) (hn : n ≤ 3072) (hi : 6 * k + 6 ≤ n) (hI : LI a b c k h) (ih : ∀ h', LI a b c (k + 1) h' → ∀ z5 z6 z7 z8, V G F Q kc ks 23 [some (.ref sb), some (.ref a), some (.ref b), some (.ref c), some (.int (nI (6 * (k + 1)))), z5, z6, z7, z8] [] h') : V G F Q (kc + 200) (ks + 1200) 1901 [some (.ref sb), some (.ref a), some (.ref b), some (.ref c), some (.int (nI (6 * k))), none, none, none, none] [] h := by
  obtain ⟨A, σ, P, r, B, x, u, md, hs, o, rfl, rfl, hC, hM, hR, hA, hy, ho, dAB, dAc, dBc⟩ := hI
  have k512 : k < 512 := by omega
  have hS : 999 * (k : Int) ≤ 1073741824 := by omega
  have hA1 : Am σ (999 * ((k + 1 : Nat) : Int)) := hA.up (by omega)
  have hy1 : gy σ ≤ 40 * (k + 1) := by omega
  refine V.run hF [(.aload_n 1, 1, .null)] (pc' := 1902) (L' := [some (.ref sb), some (.ref (A 0)), some (.ref (B 0)), some (.ref c), some (.int (nI (6 * k))), none, none, none, none]) (st' := [.ref (A 0)]) (by decide +kernel) rfl ?_
  refine V.less (kc' := kc + 17 + 161) (ks' := ks + 66 + 966) (by omega) (by omega) ?_
  refine V.callV (As := []) (st := []) hG hF k_RL_221 (by decide +kernel) (c_X3_digest hG hC (fun p hp => (hR.2.1 p hp).2) (fun t ht => (hR.2.2.2.1 t ht).2.2.1) (by omega)) hC.2.2.1 rfl rfl ⟨by rw [hRm]; decide, by rw [hRm]; decide⟩ (Nat.le_of_ble_eq_true rfl) rfl (fun v1 h1 hp => ?_) (fun E h9 hx => hx.elim)
  obtain ⟨rfl, P1, r1, hC1, hk1⟩ := hp
  have e12 : ∀ q e, h q = some e → q ≠ c → (∀ i, i < nA σ → q ≠ A i) → h1 q = some e := fun q e he _ hA => (hk1 q hA).trans he
  have ho1 : h1 c = some (out1 o) := (hk1 c (fun i hi q => dAc i hi q.symm)).trans ho
  have hM1 := LI_B hM dAB dBc e12
  show V G F _ _ _ 1905 [some (.ref sb), some (.ref (A 0)), some (.ref (B 0)), some (.ref c), some (.int (nI (6 * k))), none, none, none, none] [.long (dgst σ)] h1
  refine V.run hF [(.aload_n 2, 1, .null)] (pc' := 1906) (L' := [some (.ref sb), some (.ref (A 0)), some (.ref (B 0)), some (.ref c), some (.int (nI (6 * k))), none, none, none, none]) (st' := [.ref (B 0), .long (dgst σ)]) (by decide +kernel) rfl ?_
  refine V.callV (As := []) (st := [.long (dgst σ)]) hG hF k_RL_225 (by decide +kernel) (c_X4_digest hG hM1 hR (PEA_of hR hA hS) (RST_of (LnP_of hR)) (alB_gOA (LnP_of hR)) (rdB_rdd (LnP_of hR)) (by omega)) hM1.2.1 rfl rfl ⟨by rw [hRm]; decide, by rw [hRm]; decide⟩ (Nat.le_of_ble_eq_true rfl) rfl (fun v2 h2 hp2 => ?_) (fun E h9 hx => hx.elim)
  obtain ⟨rfl, md2, hs2, hM2, hk2⟩ := hp2
  have hL := LI_next hM ho dAB dAc dBc hC1 ho1 rfl (fun i hi => Or.inl ⟨i, hi, rfl⟩) hR hM2 hk2 hA1 hy1
  show V G F _ _ _ 1909 [some (.ref sb), some (.ref (A 0)), some (.ref (B 0)), some (.ref c), some (.int (nI (6 * k))), none, none, none, none] [.long (dgst σ), .long (dgst σ)] h2
  refine V.run hF [(.lcmp, 1, .null)] (pc' := 1910) (L' := [some (.ref sb), some (.ref (A 0)), some (.ref (B 0)), some (.ref c), some (.int (nI (6 * k))), none, none, none, none]) (st' := [.int (lg_cmp (dgst σ) (dgst σ))]) (by decide +kernel) rfl ?_
  rw [(lg_cmp_eq _ _).mpr rfl]
  refine V.if_eq hF (off := 5) (tgt := 1915) (by decide +kernel) (by decide) (fun c1 => ?_) (fun c1 => ?_)
  · skip
    refine V.run hF [(.iinc 4 6, 3, .int 6), (.goto (-1895), 3, .null)] (pc' := 23) (L' := [some (.ref sb), some (.ref (A 0)), some (.ref (B 0)), some (.ref c), some (.int ((nI (6 * k)) + 6)), none, none, none, none]) (st' := []) (by decide +kernel) rfl ?_
    rw [n6 k]
    exact ih _ hL _ _ _ _
  · skip
    exact absurd rfl c1
end Lw
