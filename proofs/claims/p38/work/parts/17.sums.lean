/-! ===== TallyWax: sums over the shelf ===== -/
def sumT (g : Nat → Int32) : Nat → Int32
  | 0 => 0
  | t + 1 => sumT g t + g t
section Su
variable {G : Gt} {h : Hp} {A : Nat → Nat} {σ : Sg} {P : PS} {r : Nat → Int32}
set_option maxHeartbeats 4000000 in
theorem c_X3_creditorBits (hG : GOk G) (hC : CS h A σ P r) (p : Int32) : Ct G yX3_creditorBits (.code yX3_creditorBits cX3_creditorBits 7 (some .int)) 1 23 0 0 [.ref (A 0), .int p] h (is_i (cbT σ p (gT σ)) h) pxN := by
  refine Ct.of (by decide +kernel) (Nat.le_of_ble_eq_true rfl) fun F hF hT hN hRm => ?_
  obtain ⟨hI, hT8, hA, h1, h2, h3, h4, h5, h6⟩ := id hC
  have loop : ∀ i, i ≤ 8 → V G F (fin G F (is_i (cbT σ p (gT σ)) h) pxN) 0 0 14 [some (.ref (A 0)), some (.int (p)), some (.int (cbT σ p (min i (gT σ)))), some (.ref (A 2)), some (.int (nI 8)), some (.int (nI i)), none] [] h := by
    refine lp_up 8 fun i hi ih => ?_
    refine V.run hF [(.iload 5, 2, .null), (.iload 4, 2, .null)] (pc' := 18) (L' := [some (.ref (A 0)), some (.int p), some (.int (cbT σ p (min i (gT σ)))), some (.ref (A 2)), some (.int (nI 8)), some (.int (nI i)), none]) (st' := [.int (nI 8), .int (nI i)]) (by decide +kernel) rfl ?_
    refine V.icmpN_ge (i := i) (j := 8) hF (off := 32) (tgt := 50) (by decide +kernel) (by decide) (by omega) (by omega) (fun c1 => ?_) (fun c1 => ?_)
    · have e : min i (gT σ) = gT σ := by omega
      refine V.run hF [(.iload_n 2, 1, .null)] (pc' := 51) (L' := [some (.ref (A 0)), some (.int p), some (.int (cbT σ p (min i (gT σ)))), some (.ref (A 2)), some (.int (nI 8)), some (.int (nI i)), none]) (st' := [.int (cbT σ p (min i (gT σ)))]) (by decide +kernel) rfl ?_
      exact V.reti hF (by decide +kernel) ⟨by rw [e], rfl⟩
    · skip
      refine V.run hF [(.aload_n 3, 1, .null), (.iload 5, 2, .null)] (pc' := 24) (L' := [some (.ref (A 0)), some (.int p), some (.int (cbT σ p (min i (gT σ)))), some (.ref (A 2)), some (.int (nI 8)), some (.int (nI i)), none]) (st' := [.int (nI i), .ref (A 2)]) (by decide +kernel) rfl ?_
      by_cases ht : i < gT σ
      · skip
        obtain ⟨e1, e2⟩ := min_s ht
        obtain ⟨t1, t2, t3⟩ := h6 i ht
        refine V.aaldS (j := i) (b := (A (12 + 6 * i))) hG hF (by decide +kernel) h2 (by omega) (by decide) (shf_in ht) ?_
        refine V.run hF [(.astore 6, 2, .null), (.aload 6, 2, .null)] (pc' := 29) (L' := [some (.ref (A 0)), some (.int p), some (.int (cbT σ p (min i (gT σ)))), some (.ref (A 2)), some (.int (nI 8)), some (.int (nI i)), some (.ref (A (12 + 6 * i)))]) (st' := [.ref (A (12 + 6 * i))]) (by decide +kernel) rfl ?_
        refine V.ifnull1 hF (off := 15) (by decide +kernel) ?_
        refine V.run hF [(.iload_n 2, 1, .null), (.aload 6, 2, .null)] (pc' := 35) (L' := [some (.ref (A 0)), some (.int p), some (.int (cbT σ p (min i (gT σ)))), some (.ref (A 2)), some (.int (nI 8)), some (.int (nI i)), some (.ref (A (12 + 6 * i)))]) (st' := [.ref (A (12 + 6 * i)), .int (cbT σ p (min i (gT σ)))]) (by decide +kernel) rfl ?_
        refine V.getf hG hF k_RX3_56 (by decide +kernel) t1 rfl ?_
        refine V.run hF [(.iload_n 1, 1, .null)] (pc' := 39) (L' := [some (.ref (A 0)), some (.int p), some (.int (cbT σ p (min i (gT σ)))), some (.ref (A 2)), some (.int (nI 8)), some (.int (nI i)), some (.ref (A (12 + 6 * i)))]) (st' := [.int p, .ref (A (13 + 6 * i)), .int (cbT σ p (min i (gT σ)))]) (by decide +kernel) rfl ?_
        refine V.callVN (As := [.int p]) (st := [.int (cbT σ p (min i (gT σ)))]) hG hF k_RX3_247 (by decide +kernel) (c_X0_creditorBits hG t2 t3 p) t2.1 rfl rfl ⟨by rw [hRm]; decide, by rw [hRm]; decide⟩ (Nat.le_of_ble_eq_true rfl) rfl (fun v h_1 gp1 => ?_)
        obtain ⟨rfl, he_gp1⟩ := gp1
        rw [he_gp1]
        show V G F _ _ _ 42 [some (.ref (A 0)), some (.int p), some (.int (cbT σ p (min i (gT σ)))), some (.ref (A 2)), some (.int (nI 8)), some (.int (nI i)), some (.ref (A (12 + 6 * i)))] [.int (cbits (gDD σ i) (gC σ i) p (gn σ i)), .int (cbT σ p (min i (gT σ)))] h
        refine V.run hF [(.ior, 1, .null), (.istore_n 2, 1, .null), (.iinc 5 1, 3, .int 1), (.goto (-33), 3, .null)] (pc' := 14) (L' := [some (.ref (A 0)), some (.int p), some (.int (cbT σ p (min i (gT σ)) ||| cbits (gDD σ i) (gC σ i) p (gn σ i))), some (.ref (A 2)), some (.int (nI 8)), some (.int ((nI i) + 1)), some (.ref (A (12 + 6 * i)))]) (st' := []) (by decide +kernel) rfl ?_
        rw [nI_1 i]
        have := ih c1
        rw [e1, cbT, e2] at this
        rw [e2]
        exact V.loc (fun j v hv => by
          match j, hv with
          | 0, hv => exact hv
          | 1, hv => exact hv
          | 2, hv => exact hv
          | 3, hv => exact hv
          | 4, hv => exact hv
          | 5, hv => exact hv
          | 6, hv => cases hv
          | q + 7, hv => cases hv) this
      · skip
        refine V.aaldZ (j := i) hG hF (by decide +kernel) h2 (by omega) (by decide) (shf_out ht) ?_
        refine V.run hF [(.astore 6, 2, .null), (.aload 6, 2, .null)] (pc' := 29) (L' := [some (.ref (A 0)), some (.int p), some (.int (cbT σ p (min i (gT σ)))), some (.ref (A 2)), some (.int (nI 8)), some (.int (nI i)), some (.null)]) (st' := [.null]) (by decide +kernel) rfl ?_
        refine V.ifnull0 hF (off := 15) (tgt := 44) (by decide +kernel) (by decide) ?_
        refine V.run hF [(.iinc 5 1, 3, .int 1), (.goto (-33), 3, .null)] (pc' := 14) (L' := [some (.ref (A 0)), some (.int p), some (.int (cbT σ p (min i (gT σ)))), some (.ref (A 2)), some (.int (nI 8)), some (.int ((nI i) + 1)), some (.null)]) (st' := []) (by decide +kernel) rfl ?_
        rw [nI_1 i]
        have := ih c1
        rw [min_e ht] at this
        exact V.loc (fun j v hv => by
          match j, hv with
          | 0, hv => exact hv
          | 1, hv => exact hv
          | 2, hv => exact hv
          | 3, hv => exact hv
          | 4, hv => exact hv
          | 5, hv => exact hv
          | 6, hv => cases hv
          | q + 7, hv => cases hv) this
  refine V.run hF [(.iconst 0, 1, .int 0), (.istore_n 2, 1, .null), (.aload_n 0, 1, .null)] (pc' := 3) (L' := [some (.ref (A 0)), some (.int p), some (.int 0), none, none, none, none]) (st' := [.ref (A 0)]) (by decide +kernel) rfl ?_
  refine V.getf hG hF k_RX3_15 (by decide +kernel) hA rfl ?_
  refine V.run hF [(.astore_n 3, 1, .null), (.aload_n 3, 1, .null)] (pc' := 8) (L' := [some (.ref (A 0)), some (.int p), some (.int 0), some (.ref (A 2)), none, none, none]) (st' := [.ref (A 2)]) (by decide +kernel) rfl ?_
  refine V.alen hG hF (by decide +kernel) (by decide) h2 ?_
  show V G F _ _ _ 9 [some (.ref (A 0)), some (.int p), some (.int 0), some (.ref (A 2)), none, none, none] [.int (nI 8)] h
  refine V.run hF [(.istore 4, 2, .null), (.iconst 0, 1, .int 0), (.istore 5, 2, .null)] (pc' := 14) (L' := [some (.ref (A 0)), some (.int p), some (.int 0), some (.ref (A 2)), some (.int (nI 8)), some (.int 0), none]) (st' := []) (by decide +kernel) rfl ?_
  exact loop 0 (Nat.zero_le _)
abbrev gLn (σ : Sg) : Nat → Int32 := sumT (fun t => nI (gn σ t))
set_option maxHeartbeats 4000000 in
theorem c_X3_lines (hG : GOk G) (hC : CS h A σ P r) : Ct G yX3_lines (.code yX3_lines cX3_lines 6 (some .int)) 0 0 0 0 [.ref (A 0)] h (is_i (gLn σ (gT σ)) h) pxN := by
  refine Ct.of (by decide +kernel) (Nat.le_of_ble_eq_true rfl) fun F hF hT hN hRm => ?_
  obtain ⟨hI, hT8, hA, h1, h2, h3, h4, h5, h6⟩ := id hC
  have loop : ∀ i, i ≤ 8 → V G F (fin G F (is_i (gLn σ (gT σ)) h) pxN) 0 0 13 [some (.ref (A 0)), some (.int (gLn σ (min i (gT σ)))), some (.ref (A 2)), some (.int (nI 8)), some (.int (nI i)), none] [] h := by
    refine lp_up 8 fun i hi ih => ?_
    refine V.run hF [(.iload 4, 2, .null), (.iload_n 3, 1, .null)] (pc' := 16) (L' := [some (.ref (A 0)), some (.int (gLn σ (min i (gT σ)))), some (.ref (A 2)), some (.int (nI 8)), some (.int (nI i)), none]) (st' := [.int (nI 8), .int (nI i)]) (by decide +kernel) rfl ?_
    refine V.icmpN_ge (i := i) (j := 8) hF (off := 31) (tgt := 47) (by decide +kernel) (by decide) (by omega) (by omega) (fun c1 => ?_) (fun c1 => ?_)
    · have e : min i (gT σ) = gT σ := by omega
      refine V.run hF [(.iload_n 1, 1, .null)] (pc' := 48) (L' := [some (.ref (A 0)), some (.int (gLn σ (min i (gT σ)))), some (.ref (A 2)), some (.int (nI 8)), some (.int (nI i)), none]) (st' := [.int (gLn σ (min i (gT σ)))]) (by decide +kernel) rfl ?_
      exact V.reti hF (by decide +kernel) ⟨by rw [e], rfl⟩
    · skip
      refine V.run hF [(.aload_n 2, 1, .null), (.iload 4, 2, .null)] (pc' := 22) (L' := [some (.ref (A 0)), some (.int (gLn σ (min i (gT σ)))), some (.ref (A 2)), some (.int (nI 8)), some (.int (nI i)), none]) (st' := [.int (nI i), .ref (A 2)]) (by decide +kernel) rfl ?_
      by_cases ht : i < gT σ
      · skip
        obtain ⟨e1, e2⟩ := min_s ht
        obtain ⟨t1, t2, t3⟩ := h6 i ht
        refine V.aaldS (j := i) (b := (A (12 + 6 * i))) hG hF (by decide +kernel) h2 (by omega) (by decide) (shf_in ht) ?_
        refine V.run hF [(.astore 5, 2, .null), (.aload 5, 2, .null)] (pc' := 27) (L' := [some (.ref (A 0)), some (.int (gLn σ (min i (gT σ)))), some (.ref (A 2)), some (.int (nI 8)), some (.int (nI i)), some (.ref (A (12 + 6 * i)))]) (st' := [.ref (A (12 + 6 * i))]) (by decide +kernel) rfl ?_
        refine V.ifnull1 hF (off := 14) (by decide +kernel) ?_
        refine V.run hF [(.iload_n 1, 1, .null), (.aload 5, 2, .null)] (pc' := 33) (L' := [some (.ref (A 0)), some (.int (gLn σ (min i (gT σ)))), some (.ref (A 2)), some (.int (nI 8)), some (.int (nI i)), some (.ref (A (12 + 6 * i)))]) (st' := [.ref (A (12 + 6 * i)), .int (gLn σ (min i (gT σ)))]) (by decide +kernel) rfl ?_
        refine V.getf hG hF k_RX3_56 (by decide +kernel) t1 rfl ?_
        refine V.getf hG hF k_RX3_67 (by decide +kernel) t2.1 rfl ?_
        refine V.run hF [(.iadd, 1, .null), (.istore_n 1, 1, .null), (.iinc 4 1, 3, .int 1), (.goto (-31), 3, .null)] (pc' := 13) (L' := [some (.ref (A 0)), some (.int (gLn σ (min i (gT σ)) + nI (gn σ i))), some (.ref (A 2)), some (.int (nI 8)), some (.int ((nI i) + 1)), some (.ref (A (12 + 6 * i)))]) (st' := []) (by decide +kernel) rfl ?_
        rw [nI_1 i]
        have := ih c1
        rw [e1, gLn, sumT, e2] at this
        rw [e2]
        exact V.loc (fun j v hv => by
          match j, hv with
          | 0, hv => exact hv
          | 1, hv => exact hv
          | 2, hv => exact hv
          | 3, hv => exact hv
          | 4, hv => exact hv
          | 5, hv => cases hv
          | q + 6, hv => cases hv) this
      · skip
        refine V.aaldZ (j := i) hG hF (by decide +kernel) h2 (by omega) (by decide) (shf_out ht) ?_
        refine V.run hF [(.astore 5, 2, .null), (.aload 5, 2, .null)] (pc' := 27) (L' := [some (.ref (A 0)), some (.int (gLn σ (min i (gT σ)))), some (.ref (A 2)), some (.int (nI 8)), some (.int (nI i)), some (.null)]) (st' := [.null]) (by decide +kernel) rfl ?_
        refine V.ifnull0 hF (off := 14) (tgt := 41) (by decide +kernel) (by decide) ?_
        refine V.run hF [(.iinc 4 1, 3, .int 1), (.goto (-31), 3, .null)] (pc' := 13) (L' := [some (.ref (A 0)), some (.int (gLn σ (min i (gT σ)))), some (.ref (A 2)), some (.int (nI 8)), some (.int ((nI i) + 1)), some (.null)]) (st' := []) (by decide +kernel) rfl ?_
        rw [nI_1 i]
        have := ih c1
        rw [min_e ht] at this
        exact V.loc (fun j v hv => by
          match j, hv with
          | 0, hv => exact hv
          | 1, hv => exact hv
          | 2, hv => exact hv
          | 3, hv => exact hv
          | 4, hv => exact hv
          | 5, hv => cases hv
          | q + 6, hv => cases hv) this
  refine V.run hF [(.iconst 0, 1, .int 0), (.istore_n 1, 1, .null), (.aload_n 0, 1, .null)] (pc' := 3) (L' := [some (.ref (A 0)), some (.int 0), none, none, none, none]) (st' := [.ref (A 0)]) (by decide +kernel) rfl ?_
  refine V.getf hG hF k_RX3_15 (by decide +kernel) hA rfl ?_
  refine V.run hF [(.astore_n 2, 1, .null), (.aload_n 2, 1, .null)] (pc' := 8) (L' := [some (.ref (A 0)), some (.int 0), some (.ref (A 2)), none, none, none]) (st' := [.ref (A 2)]) (by decide +kernel) rfl ?_
  refine V.alen hG hF (by decide +kernel) (by decide) h2 ?_
  show V G F _ _ _ 9 [some (.ref (A 0)), some (.int 0), some (.ref (A 2)), none, none, none] [.int (nI 8)] h
  refine V.run hF [(.istore_n 3, 1, .null), (.iconst 0, 1, .int 0), (.istore 4, 2, .null)] (pc' := 13) (L' := [some (.ref (A 0)), some (.int 0), some (.ref (A 2)), some (.int (nI 8)), some (.int 0), none]) (st' := []) (by decide +kernel) rfl ?_
  exact loop 0 (Nat.zero_le _)
abbrev gTo (σ : Sg) : Nat → Int32 := sumT (fun t => sm (gM σ t) (gn σ t))
set_option maxHeartbeats 4000000 in
theorem c_X3_total (hG : GOk G) (hC : CS h A σ P r) : Ct G yX3_total (.code yX3_total cX3_total 6 (some .int)) 1 22 0 0 [.ref (A 0)] h (is_i (gTo σ (gT σ)) h) pxN := by
  refine Ct.of (by decide +kernel) (Nat.le_of_ble_eq_true rfl) fun F hF hT hN hRm => ?_
  obtain ⟨hI, hT8, hA, h1, h2, h3, h4, h5, h6⟩ := id hC
  have loop : ∀ i, i ≤ 8 → V G F (fin G F (is_i (gTo σ (gT σ)) h) pxN) 0 0 13 [some (.ref (A 0)), some (.int (gTo σ (min i (gT σ)))), some (.ref (A 2)), some (.int (nI 8)), some (.int (nI i)), none] [] h := by
    refine lp_up 8 fun i hi ih => ?_
    refine V.run hF [(.iload 4, 2, .null), (.iload_n 3, 1, .null)] (pc' := 16) (L' := [some (.ref (A 0)), some (.int (gTo σ (min i (gT σ)))), some (.ref (A 2)), some (.int (nI 8)), some (.int (nI i)), none]) (st' := [.int (nI 8), .int (nI i)]) (by decide +kernel) rfl ?_
    refine V.icmpN_ge (i := i) (j := 8) hF (off := 31) (tgt := 47) (by decide +kernel) (by decide) (by omega) (by omega) (fun c1 => ?_) (fun c1 => ?_)
    · have e : min i (gT σ) = gT σ := by omega
      refine V.run hF [(.iload_n 1, 1, .null)] (pc' := 48) (L' := [some (.ref (A 0)), some (.int (gTo σ (min i (gT σ)))), some (.ref (A 2)), some (.int (nI 8)), some (.int (nI i)), none]) (st' := [.int (gTo σ (min i (gT σ)))]) (by decide +kernel) rfl ?_
      exact V.reti hF (by decide +kernel) ⟨by rw [e], rfl⟩
    · skip
      refine V.run hF [(.aload_n 2, 1, .null), (.iload 4, 2, .null)] (pc' := 22) (L' := [some (.ref (A 0)), some (.int (gTo σ (min i (gT σ)))), some (.ref (A 2)), some (.int (nI 8)), some (.int (nI i)), none]) (st' := [.int (nI i), .ref (A 2)]) (by decide +kernel) rfl ?_
      by_cases ht : i < gT σ
      · skip
        obtain ⟨e1, e2⟩ := min_s ht
        obtain ⟨t1, t2, t3⟩ := h6 i ht
        refine V.aaldS (j := i) (b := (A (12 + 6 * i))) hG hF (by decide +kernel) h2 (by omega) (by decide) (shf_in ht) ?_
        refine V.run hF [(.astore 5, 2, .null), (.aload 5, 2, .null)] (pc' := 27) (L' := [some (.ref (A 0)), some (.int (gTo σ (min i (gT σ)))), some (.ref (A 2)), some (.int (nI 8)), some (.int (nI i)), some (.ref (A (12 + 6 * i)))]) (st' := [.ref (A (12 + 6 * i))]) (by decide +kernel) rfl ?_
        refine V.ifnull1 hF (off := 14) (by decide +kernel) ?_
        refine V.run hF [(.iload_n 1, 1, .null), (.aload 5, 2, .null)] (pc' := 33) (L' := [some (.ref (A 0)), some (.int (gTo σ (min i (gT σ)))), some (.ref (A 2)), some (.int (nI 8)), some (.int (nI i)), some (.ref (A (12 + 6 * i)))]) (st' := [.ref (A (12 + 6 * i)), .int (gTo σ (min i (gT σ)))]) (by decide +kernel) rfl ?_
        refine V.getf hG hF k_RX3_56 (by decide +kernel) t1 rfl ?_
        refine V.callVN (As := []) (st := [.int (gTo σ (min i (gT σ)))]) hG hF k_RX3_158 (by decide +kernel) (c_X0_sum hG t2 t3) t2.1 rfl rfl ⟨by rw [hRm]; decide, by rw [hRm]; decide⟩ (Nat.le_of_ble_eq_true rfl) rfl (fun v h_1 gp1 => ?_)
        obtain ⟨rfl, he_gp1⟩ := gp1
        rw [he_gp1]
        show V G F _ _ _ 39 [some (.ref (A 0)), some (.int (gTo σ (min i (gT σ)))), some (.ref (A 2)), some (.int (nI 8)), some (.int (nI i)), some (.ref (A (12 + 6 * i)))] [.int (sm (gM σ i) (gn σ i)), .int (gTo σ (min i (gT σ)))] h
        refine V.run hF [(.iadd, 1, .null), (.istore_n 1, 1, .null), (.iinc 4 1, 3, .int 1), (.goto (-31), 3, .null)] (pc' := 13) (L' := [some (.ref (A 0)), some (.int (gTo σ (min i (gT σ)) + sm (gM σ i) (gn σ i))), some (.ref (A 2)), some (.int (nI 8)), some (.int ((nI i) + 1)), some (.ref (A (12 + 6 * i)))]) (st' := []) (by decide +kernel) rfl ?_
        rw [nI_1 i]
        have := ih c1
        rw [e1, gTo, sumT, e2] at this
        rw [e2]
        exact V.loc (fun j v hv => by
          match j, hv with
          | 0, hv => exact hv
          | 1, hv => exact hv
          | 2, hv => exact hv
          | 3, hv => exact hv
          | 4, hv => exact hv
          | 5, hv => cases hv
          | q + 6, hv => cases hv) this
      · skip
        refine V.aaldZ (j := i) hG hF (by decide +kernel) h2 (by omega) (by decide) (shf_out ht) ?_
        refine V.run hF [(.astore 5, 2, .null), (.aload 5, 2, .null)] (pc' := 27) (L' := [some (.ref (A 0)), some (.int (gTo σ (min i (gT σ)))), some (.ref (A 2)), some (.int (nI 8)), some (.int (nI i)), some (.null)]) (st' := [.null]) (by decide +kernel) rfl ?_
        refine V.ifnull0 hF (off := 14) (tgt := 41) (by decide +kernel) (by decide) ?_
        refine V.run hF [(.iinc 4 1, 3, .int 1), (.goto (-31), 3, .null)] (pc' := 13) (L' := [some (.ref (A 0)), some (.int (gTo σ (min i (gT σ)))), some (.ref (A 2)), some (.int (nI 8)), some (.int ((nI i) + 1)), some (.null)]) (st' := []) (by decide +kernel) rfl ?_
        rw [nI_1 i]
        have := ih c1
        rw [min_e ht] at this
        exact V.loc (fun j v hv => by
          match j, hv with
          | 0, hv => exact hv
          | 1, hv => exact hv
          | 2, hv => exact hv
          | 3, hv => exact hv
          | 4, hv => exact hv
          | 5, hv => cases hv
          | q + 6, hv => cases hv) this
  refine V.run hF [(.iconst 0, 1, .int 0), (.istore_n 1, 1, .null), (.aload_n 0, 1, .null)] (pc' := 3) (L' := [some (.ref (A 0)), some (.int 0), none, none, none, none]) (st' := [.ref (A 0)]) (by decide +kernel) rfl ?_
  refine V.getf hG hF k_RX3_15 (by decide +kernel) hA rfl ?_
  refine V.run hF [(.astore_n 2, 1, .null), (.aload_n 2, 1, .null)] (pc' := 8) (L' := [some (.ref (A 0)), some (.int 0), some (.ref (A 2)), none, none, none]) (st' := [.ref (A 2)]) (by decide +kernel) rfl ?_
  refine V.alen hG hF (by decide +kernel) (by decide) h2 ?_
  show V G F _ _ _ 9 [some (.ref (A 0)), some (.int 0), some (.ref (A 2)), none, none, none] [.int (nI 8)] h
  refine V.run hF [(.istore_n 3, 1, .null), (.iconst 0, 1, .int 0), (.istore 4, 2, .null)] (pc' := 13) (L' := [some (.ref (A 0)), some (.int 0), some (.ref (A 2)), some (.int (nI 8)), some (.int 0), none]) (st' := []) (by decide +kernel) rfl ?_
  exact loop 0 (Nat.zero_le _)
abbrev gOw (σ : Sg) (p q : Int32) : Nat → Int32 := sumT (fun t => owe (gDD σ t) (gC σ t) (gM σ t) p q (gn σ t))
set_option maxHeartbeats 4000000 in
theorem c_X3_owes (hG : GOk G) (hC : CS h A σ P r) (p q : Int32) : Ct G yX3_owes (.code yX3_owes cX3_owes 8 (some .int)) 7 102 2 12 [.ref (A 0), .int p, .int q] h (fun v h' => (inP p ∧ inP q) ∧ is_i (gOw σ p q (gT σ)) h v h') (fun E h' => E = eI ∧ ¬ (inP p ∧ inP q) ∧ h' = h) := by
  refine Ct.of (by decide +kernel) (Nat.le_of_ble_eq_true rfl) fun F hF hT hN hRm => ?_
  obtain ⟨hI, hT8, hA, h1, h2, h3, h4, h5, h6⟩ := id hC
  refine V.run hF [(.iload_n 1, 1, .null)] (pc' := 1) (L' := [some (.ref (A 0)), some (.int p), some (.int q), none, none, none, none, none]) (st' := [.int p]) (by decide +kernel) rfl ?_
  refine V.callS (As := [.int p]) (st := []) hG hF k_RX3_60 (by decide +kernel) (c_X3_checkPerson hG p) rfl ⟨by rw [hRm]; decide, by rw [hRm]; decide⟩ (Nat.le_of_ble_eq_true rfl) rfl (fun v h1' hp => ?_) (fun E h9 hx => VX.out hF hT ⟨hx.1, fun q => hx.2.1 q.1, hx.2.2⟩)
  obtain ⟨rfl, hx, he⟩ := hp
  rw [he]
  show V G F _ _ _ 4 [some (.ref (A 0)), some (.int p), some (.int q), none, none, none, none, none] [] h
  refine V.run hF [(.iload_n 2, 1, .null)] (pc' := 5) (L' := [some (.ref (A 0)), some (.int p), some (.int q), none, none, none, none, none]) (st' := [.int q]) (by decide +kernel) rfl ?_
  refine V.callS (As := [.int q]) (st := []) hG hF k_RX3_60 (by decide +kernel) (c_X3_checkPerson hG q) rfl ⟨by rw [hRm]; decide, by rw [hRm]; decide⟩ (Nat.le_of_ble_eq_true rfl) rfl (fun v h1' hp => ?_) (fun E h9 hx => VX.out hF hT ⟨hx.1, fun q => hx.2.1 q.2, hx.2.2⟩)
  obtain ⟨rfl, hx2, he⟩ := hp
  rw [he]
  show V G F _ _ _ 8 [some (.ref (A 0)), some (.int p), some (.int q), none, none, none, none, none] [] h
  refine V.less (Nat.zero_le _) (Nat.zero_le _) (?_ : V G F _ 0 0 8 [some (.ref (A 0)), some (.int p), some (.int q), none, none, none, none, none] [] h)
  have loop : ∀ i, i ≤ 8 → V G F (fin G F (fun v h' => (inP p ∧ inP q) ∧ is_i (gOw σ p q (gT σ)) h v h') (fun E h' => E = eI ∧ ¬ (inP p ∧ inP q) ∧ h' = h)) 0 0 24 [some (.ref (A 0)), some (.int (p)), some (.int (q)), some (.int (gOw σ p q (min i (gT σ)))), some (.ref (A 2)), some (.int (nI 8)), some (.int (nI i)), none] [] h := by
    refine lp_up 8 fun i hi ih => ?_
    refine V.run hF [(.iload 6, 2, .null), (.iload 5, 2, .null)] (pc' := 28) (L' := [some (.ref (A 0)), some (.int p), some (.int q), some (.int (gOw σ p q (min i (gT σ)))), some (.ref (A 2)), some (.int (nI 8)), some (.int (nI i)), none]) (st' := [.int (nI 8), .int (nI i)]) (by decide +kernel) rfl ?_
    refine V.icmpN_ge (i := i) (j := 8) hF (off := 34) (tgt := 62) (by decide +kernel) (by decide) (by omega) (by omega) (fun c1 => ?_) (fun c1 => ?_)
    · have e : min i (gT σ) = gT σ := by omega
      refine V.run hF [(.iload_n 3, 1, .null)] (pc' := 63) (L' := [some (.ref (A 0)), some (.int p), some (.int q), some (.int (gOw σ p q (min i (gT σ)))), some (.ref (A 2)), some (.int (nI 8)), some (.int (nI i)), none]) (st' := [.int (gOw σ p q (min i (gT σ)))]) (by decide +kernel) rfl ?_
      exact V.reti hF (by decide +kernel) ⟨⟨hx, hx2⟩, by rw [e], rfl⟩
    · skip
      refine V.run hF [(.aload 4, 2, .null), (.iload 6, 2, .null)] (pc' := 35) (L' := [some (.ref (A 0)), some (.int p), some (.int q), some (.int (gOw σ p q (min i (gT σ)))), some (.ref (A 2)), some (.int (nI 8)), some (.int (nI i)), none]) (st' := [.int (nI i), .ref (A 2)]) (by decide +kernel) rfl ?_
      by_cases ht : i < gT σ
      · skip
        obtain ⟨e1, e2⟩ := min_s ht
        obtain ⟨t1, t2, t3⟩ := h6 i ht
        refine V.aaldS (j := i) (b := (A (12 + 6 * i))) hG hF (by decide +kernel) h2 (by omega) (by decide) (shf_in ht) ?_
        refine V.run hF [(.astore 7, 2, .null), (.aload 7, 2, .null)] (pc' := 40) (L' := [some (.ref (A 0)), some (.int p), some (.int q), some (.int (gOw σ p q (min i (gT σ)))), some (.ref (A 2)), some (.int (nI 8)), some (.int (nI i)), some (.ref (A (12 + 6 * i)))]) (st' := [.ref (A (12 + 6 * i))]) (by decide +kernel) rfl ?_
        refine V.ifnull1 hF (off := 16) (by decide +kernel) ?_
        refine V.run hF [(.iload_n 3, 1, .null), (.aload 7, 2, .null)] (pc' := 46) (L' := [some (.ref (A 0)), some (.int p), some (.int q), some (.int (gOw σ p q (min i (gT σ)))), some (.ref (A 2)), some (.int (nI 8)), some (.int (nI i)), some (.ref (A (12 + 6 * i)))]) (st' := [.ref (A (12 + 6 * i)), .int (gOw σ p q (min i (gT σ)))]) (by decide +kernel) rfl ?_
        refine V.getf hG hF k_RX3_56 (by decide +kernel) t1 rfl ?_
        refine V.run hF [(.iload_n 1, 1, .null), (.iload_n 2, 1, .null)] (pc' := 51) (L' := [some (.ref (A 0)), some (.int p), some (.int q), some (.int (gOw σ p q (min i (gT σ)))), some (.ref (A 2)), some (.int (nI 8)), some (.int (nI i)), some (.ref (A (12 + 6 * i)))]) (st' := [.int q, .int p, .ref (A (13 + 6 * i)), .int (gOw σ p q (min i (gT σ)))]) (by decide +kernel) rfl ?_
        refine V.callVN (As := [.int p, .int q]) (st := [.int (gOw σ p q (min i (gT σ)))]) hG hF k_RX3_154 (by decide +kernel) (c_X0_owedBetween hG t2 t3 p q) t2.1 rfl rfl ⟨by rw [hRm]; decide, by rw [hRm]; decide⟩ (Nat.le_of_ble_eq_true rfl) rfl (fun v h_3 gp3 => ?_)
        obtain ⟨rfl, he_gp3⟩ := gp3
        rw [he_gp3]
        show V G F _ _ _ 54 [some (.ref (A 0)), some (.int p), some (.int q), some (.int (gOw σ p q (min i (gT σ)))), some (.ref (A 2)), some (.int (nI 8)), some (.int (nI i)), some (.ref (A (12 + 6 * i)))] [.int (owe (gDD σ i) (gC σ i) (gM σ i) p q (gn σ i)), .int (gOw σ p q (min i (gT σ)))] h
        refine V.run hF [(.iadd, 1, .null), (.istore_n 3, 1, .null), (.iinc 6 1, 3, .int 1), (.goto (-35), 3, .null)] (pc' := 24) (L' := [some (.ref (A 0)), some (.int p), some (.int q), some (.int (gOw σ p q (min i (gT σ)) + owe (gDD σ i) (gC σ i) (gM σ i) p q (gn σ i))), some (.ref (A 2)), some (.int (nI 8)), some (.int ((nI i) + 1)), some (.ref (A (12 + 6 * i)))]) (st' := []) (by decide +kernel) rfl ?_
        rw [nI_1 i]
        have := ih c1
        rw [e1, gOw, sumT, e2] at this
        rw [e2]
        exact V.loc (fun j v hv => by
          match j, hv with
          | 0, hv => exact hv
          | 1, hv => exact hv
          | 2, hv => exact hv
          | 3, hv => exact hv
          | 4, hv => exact hv
          | 5, hv => exact hv
          | 6, hv => exact hv
          | 7, hv => cases hv
          | q + 8, hv => cases hv) this
      · skip
        refine V.aaldZ (j := i) hG hF (by decide +kernel) h2 (by omega) (by decide) (shf_out ht) ?_
        refine V.run hF [(.astore 7, 2, .null), (.aload 7, 2, .null)] (pc' := 40) (L' := [some (.ref (A 0)), some (.int p), some (.int q), some (.int (gOw σ p q (min i (gT σ)))), some (.ref (A 2)), some (.int (nI 8)), some (.int (nI i)), some (.null)]) (st' := [.null]) (by decide +kernel) rfl ?_
        refine V.ifnull0 hF (off := 16) (tgt := 56) (by decide +kernel) (by decide) ?_
        refine V.run hF [(.iinc 6 1, 3, .int 1), (.goto (-35), 3, .null)] (pc' := 24) (L' := [some (.ref (A 0)), some (.int p), some (.int q), some (.int (gOw σ p q (min i (gT σ)))), some (.ref (A 2)), some (.int (nI 8)), some (.int ((nI i) + 1)), some (.null)]) (st' := []) (by decide +kernel) rfl ?_
        rw [nI_1 i]
        have := ih c1
        rw [min_e ht] at this
        exact V.loc (fun j v hv => by
          match j, hv with
          | 0, hv => exact hv
          | 1, hv => exact hv
          | 2, hv => exact hv
          | 3, hv => exact hv
          | 4, hv => exact hv
          | 5, hv => exact hv
          | 6, hv => exact hv
          | 7, hv => cases hv
          | q + 8, hv => cases hv) this
  refine V.run hF [(.iconst 0, 1, .int 0), (.istore_n 3, 1, .null), (.aload_n 0, 1, .null)] (pc' := 11) (L' := [some (.ref (A 0)), some (.int p), some (.int q), some (.int 0), none, none, none, none]) (st' := [.ref (A 0)]) (by decide +kernel) rfl ?_
  refine V.getf hG hF k_RX3_15 (by decide +kernel) hA rfl ?_
  refine V.run hF [(.astore 4, 2, .null), (.aload 4, 2, .null)] (pc' := 18) (L' := [some (.ref (A 0)), some (.int p), some (.int q), some (.int 0), some (.ref (A 2)), none, none, none]) (st' := [.ref (A 2)]) (by decide +kernel) rfl ?_
  refine V.alen hG hF (by decide +kernel) (by decide) h2 ?_
  show V G F _ _ _ 19 [some (.ref (A 0)), some (.int p), some (.int q), some (.int 0), some (.ref (A 2)), none, none, none] [.int (nI 8)] h
  refine V.run hF [(.istore 5, 2, .null), (.iconst 0, 1, .int 0), (.istore 6, 2, .null)] (pc' := 24) (L' := [some (.ref (A 0)), some (.int p), some (.int q), some (.int 0), some (.ref (A 2)), some (.int (nI 8)), some (.int 0), none]) (st' := []) (by decide +kernel) rfl ?_
  exact loop 0 (Nat.zero_le _)
abbrev gRk (σ : Sg) (p : Int32) : Nat → Int32 := sumT (fun t => wit (gM σ t) (gW σ t) p (gn σ t))
set_option maxHeartbeats 4000000 in
theorem c_X3_atRisk (hG : GOk G) (hC : CS h A σ P r) (p : Int32) : Ct G yX3_atRisk (.code yX3_atRisk cX3_atRisk 7 (some .int)) 7 102 1 6 [.ref (A 0), .int p] h (fun v h' => inP p ∧ is_i (if gth σ p.toNatClampNeg = 0 then 0 else gRk σ p (gT σ)) h v h') (fun E h' => E = eI ∧ ¬ inP p ∧ h' = h) := by
  refine Ct.of (by decide +kernel) (Nat.le_of_ble_eq_true rfl) fun F hF hT hN hRm => ?_
  obtain ⟨hI, hT8, hA, h1, h2, h3, h4, h5, h6⟩ := id hC
  refine V.run hF [(.iload_n 1, 1, .null)] (pc' := 1) (L' := [some (.ref (A 0)), some (.int p), none, none, none, none, none]) (st' := [.int p]) (by decide +kernel) rfl ?_
  refine V.callS (As := [.int p]) (st := []) hG hF k_RX3_60 (by decide +kernel) (c_X3_checkPerson hG p) rfl ⟨by rw [hRm]; decide, by rw [hRm]; decide⟩ (Nat.le_of_ble_eq_true rfl) rfl (fun v h1' hp => ?_) (fun E h9 hx => VX.out hF hT ⟨hx.1, hx.2.1, hx.2.2⟩)
  obtain ⟨rfl, hx, he⟩ := hp
  rw [he]
  show V G F _ _ _ 4 [some (.ref (A 0)), some (.int p), none, none, none, none, none] [] h
  refine V.less (Nat.zero_le _) (Nat.zero_le _) (?_ : V G F _ 0 0 4 [some (.ref (A 0)), some (.int p), none, none, none, none, none] [] h)
  have hin : vp_in p 8 := by
    obtain ⟨q, hq, eq⟩ := inP_of hx
    rw [eq]
    exact vp_in_nI hq (by decide)
  refine V.run hF [(.aload_n 0, 1, .null)] (pc' := 5) (L' := [some (.ref (A 0)), some (.int p), none, none, none, none, none]) (st' := [.ref (A 0)]) (by decide +kernel) rfl ?_
  refine V.getf hG hF k_RX3_9 (by decide +kernel) hA rfl ?_
  refine V.run hF [(.iload_n 1, 1, .null)] (pc' := 9) (L' := [some (.ref (A 0)), some (.int p), none, none, none, none, none]) (st' := [.int p, .ref (A 1)]) (by decide +kernel) rfl ?_
  refine V.zald hG hF (by decide +kernel) h1 (by assumption) ?_
  rcases Classical.em (gth σ p.toNatClampNeg = 0) with hth | hth
  · refine V.if_ne hF (off := 5) (tgt := 15) (by decide +kernel) (by decide) (fun c => absurd hth c) (fun c => ?_)
    refine V.run hF [(.iconst 0, 1, .int 0)] (pc' := 14) (L' := [some (.ref (A 0)), some (.int p), none, none, none, none, none]) (st' := [.int 0]) (by decide +kernel) rfl ?_
    exact V.reti hF (by decide +kernel) ⟨hx, by rw [if_pos hth], rfl⟩
  refine V.if_ne hF (off := 5) (tgt := 15) (by decide +kernel) (by decide) (fun c => ?_) (fun c => absurd c hth)
  show V G F _ _ _ 15 [some (.ref (A 0)), some (.int p), none, none, none, none, none] [] h
  have loop : ∀ i, i ≤ 8 → V G F (fin G F (fun v h' => inP p ∧ is_i (if gth σ p.toNatClampNeg = 0 then 0 else gRk σ p (gT σ)) h v h') (fun E h' => E = eI ∧ ¬ inP p ∧ h' = h)) 0 0 29 [some (.ref (A 0)), some (.int (p)), some (.int (gRk σ p (min i (gT σ)))), some (.ref (A 2)), some (.int (nI 8)), some (.int (nI i)), none] [] h := by
    refine lp_up 8 fun i hi ih => ?_
    refine V.run hF [(.iload 5, 2, .null), (.iload 4, 2, .null)] (pc' := 33) (L' := [some (.ref (A 0)), some (.int p), some (.int (gRk σ p (min i (gT σ)))), some (.ref (A 2)), some (.int (nI 8)), some (.int (nI i)), none]) (st' := [.int (nI 8), .int (nI i)]) (by decide +kernel) rfl ?_
    refine V.icmpN_ge (i := i) (j := 8) hF (off := 32) (tgt := 65) (by decide +kernel) (by decide) (by omega) (by omega) (fun c1 => ?_) (fun c1 => ?_)
    · have e : min i (gT σ) = gT σ := by omega
      refine V.run hF [(.iload_n 2, 1, .null)] (pc' := 66) (L' := [some (.ref (A 0)), some (.int p), some (.int (gRk σ p (min i (gT σ)))), some (.ref (A 2)), some (.int (nI 8)), some (.int (nI i)), none]) (st' := [.int (gRk σ p (min i (gT σ)))]) (by decide +kernel) rfl ?_
      exact V.reti hF (by decide +kernel) ⟨hx, by rw [if_neg hth, e], rfl⟩
    · skip
      refine V.run hF [(.aload_n 3, 1, .null), (.iload 5, 2, .null)] (pc' := 39) (L' := [some (.ref (A 0)), some (.int p), some (.int (gRk σ p (min i (gT σ)))), some (.ref (A 2)), some (.int (nI 8)), some (.int (nI i)), none]) (st' := [.int (nI i), .ref (A 2)]) (by decide +kernel) rfl ?_
      by_cases ht : i < gT σ
      · skip
        obtain ⟨e1, e2⟩ := min_s ht
        obtain ⟨t1, t2, t3⟩ := h6 i ht
        refine V.aaldS (j := i) (b := (A (12 + 6 * i))) hG hF (by decide +kernel) h2 (by omega) (by decide) (shf_in ht) ?_
        refine V.run hF [(.astore 6, 2, .null), (.aload 6, 2, .null)] (pc' := 44) (L' := [some (.ref (A 0)), some (.int p), some (.int (gRk σ p (min i (gT σ)))), some (.ref (A 2)), some (.int (nI 8)), some (.int (nI i)), some (.ref (A (12 + 6 * i)))]) (st' := [.ref (A (12 + 6 * i))]) (by decide +kernel) rfl ?_
        refine V.ifnull1 hF (off := 15) (by decide +kernel) ?_
        refine V.run hF [(.iload_n 2, 1, .null), (.aload 6, 2, .null)] (pc' := 50) (L' := [some (.ref (A 0)), some (.int p), some (.int (gRk σ p (min i (gT σ)))), some (.ref (A 2)), some (.int (nI 8)), some (.int (nI i)), some (.ref (A (12 + 6 * i)))]) (st' := [.ref (A (12 + 6 * i)), .int (gRk σ p (min i (gT σ)))]) (by decide +kernel) rfl ?_
        refine V.getf hG hF k_RX3_56 (by decide +kernel) t1 rfl ?_
        refine V.run hF [(.iload_n 1, 1, .null)] (pc' := 54) (L' := [some (.ref (A 0)), some (.int p), some (.int (gRk σ p (min i (gT σ)))), some (.ref (A 2)), some (.int (nI 8)), some (.int (nI i)), some (.ref (A (12 + 6 * i)))]) (st' := [.int p, .ref (A (13 + 6 * i)), .int (gRk σ p (min i (gT σ)))]) (by decide +kernel) rfl ?_
        refine V.callVN (As := [.int p]) (st := [.int (gRk σ p (min i (gT σ)))]) hG hF k_RX3_180 (by decide +kernel) (c_X0_sumWitnessedBy hG t2 t3 p) t2.1 rfl rfl ⟨by rw [hRm]; decide, by rw [hRm]; decide⟩ (Nat.le_of_ble_eq_true rfl) rfl (fun v h_2 gp2 => ?_)
        obtain ⟨rfl, he_gp2⟩ := gp2
        rw [he_gp2]
        show V G F _ _ _ 57 [some (.ref (A 0)), some (.int p), some (.int (gRk σ p (min i (gT σ)))), some (.ref (A 2)), some (.int (nI 8)), some (.int (nI i)), some (.ref (A (12 + 6 * i)))] [.int (wit (gM σ i) (gW σ i) p (gn σ i)), .int (gRk σ p (min i (gT σ)))] h
        refine V.run hF [(.iadd, 1, .null), (.istore_n 2, 1, .null), (.iinc 5 1, 3, .int 1), (.goto (-33), 3, .null)] (pc' := 29) (L' := [some (.ref (A 0)), some (.int p), some (.int (gRk σ p (min i (gT σ)) + wit (gM σ i) (gW σ i) p (gn σ i))), some (.ref (A 2)), some (.int (nI 8)), some (.int ((nI i) + 1)), some (.ref (A (12 + 6 * i)))]) (st' := []) (by decide +kernel) rfl ?_
        rw [nI_1 i]
        have := ih c1
        rw [e1, gRk, sumT, e2] at this
        rw [e2]
        exact V.loc (fun j v hv => by
          match j, hv with
          | 0, hv => exact hv
          | 1, hv => exact hv
          | 2, hv => exact hv
          | 3, hv => exact hv
          | 4, hv => exact hv
          | 5, hv => exact hv
          | 6, hv => cases hv
          | q + 7, hv => cases hv) this
      · skip
        refine V.aaldZ (j := i) hG hF (by decide +kernel) h2 (by omega) (by decide) (shf_out ht) ?_
        refine V.run hF [(.astore 6, 2, .null), (.aload 6, 2, .null)] (pc' := 44) (L' := [some (.ref (A 0)), some (.int p), some (.int (gRk σ p (min i (gT σ)))), some (.ref (A 2)), some (.int (nI 8)), some (.int (nI i)), some (.null)]) (st' := [.null]) (by decide +kernel) rfl ?_
        refine V.ifnull0 hF (off := 15) (tgt := 59) (by decide +kernel) (by decide) ?_
        refine V.run hF [(.iinc 5 1, 3, .int 1), (.goto (-33), 3, .null)] (pc' := 29) (L' := [some (.ref (A 0)), some (.int p), some (.int (gRk σ p (min i (gT σ)))), some (.ref (A 2)), some (.int (nI 8)), some (.int ((nI i) + 1)), some (.null)]) (st' := []) (by decide +kernel) rfl ?_
        rw [nI_1 i]
        have := ih c1
        rw [min_e ht] at this
        exact V.loc (fun j v hv => by
          match j, hv with
          | 0, hv => exact hv
          | 1, hv => exact hv
          | 2, hv => exact hv
          | 3, hv => exact hv
          | 4, hv => exact hv
          | 5, hv => exact hv
          | 6, hv => cases hv
          | q + 7, hv => cases hv) this
  refine V.run hF [(.iconst 0, 1, .int 0), (.istore_n 2, 1, .null), (.aload_n 0, 1, .null)] (pc' := 18) (L' := [some (.ref (A 0)), some (.int p), some (.int 0), none, none, none, none]) (st' := [.ref (A 0)]) (by decide +kernel) rfl ?_
  refine V.getf hG hF k_RX3_15 (by decide +kernel) hA rfl ?_
  refine V.run hF [(.astore_n 3, 1, .null), (.aload_n 3, 1, .null)] (pc' := 23) (L' := [some (.ref (A 0)), some (.int p), some (.int 0), some (.ref (A 2)), none, none, none]) (st' := [.ref (A 2)]) (by decide +kernel) rfl ?_
  refine V.alen hG hF (by decide +kernel) (by decide) h2 ?_
  show V G F _ _ _ 24 [some (.ref (A 0)), some (.int p), some (.int 0), some (.ref (A 2)), none, none, none] [.int (nI 8)] h
  refine V.run hF [(.istore 4, 2, .null), (.iconst 0, 1, .int 0), (.istore 5, 2, .null)] (pc' := 29) (L' := [some (.ref (A 0)), some (.int p), some (.int 0), some (.ref (A 2)), some (.int (nI 8)), some (.int 0), none]) (st' := []) (by decide +kernel) rfl ?_
  exact loop 0 (Nat.zero_le _)
def gMl (σ : Sg) (y : Int32) (t : Nat) : Int32 := if ytm σ t 10 0 = -1 then 0 else if y < ytm σ t 10 0 then 0 else sm (gM σ t) (gn σ t)
abbrev gMI (σ : Sg) (y : Int32) : Nat → Int32 := sumT (gMl σ y)
set_option maxHeartbeats 4000000 in
theorem c_X3_meltsIn (hG : GOk G) (hC : CS h A σ P r) (p : Int32) (hy : gy σ < 2 ^ 30) : Ct G yX3_meltsIn (.code yX3_meltsIn cX3_meltsIn 8 (some .int)) 7 102 1 6 [.ref (A 0), .int p] h (fun v h' => inY p ∧ is_i (gMI σ p (gT σ)) h v h') (fun E h' => E = eA ∧ ¬ inY p ∧ h' = h) := by
  refine Ct.of (by decide +kernel) (Nat.le_of_ble_eq_true rfl) fun F hF hT hN hRm => ?_
  obtain ⟨hI, hT8, hA, h1, h2, h3, h4, h5, h6⟩ := id hC
  refine V.run hF [(.iload_n 1, 1, .null)] (pc' := 1) (L' := [some (.ref (A 0)), some (.int p), none, none, none, none, none, none]) (st' := [.int p]) (by decide +kernel) rfl ?_
  refine V.callS (As := [.int p]) (st := []) hG hF k_RX3_133 (by decide +kernel) (c_X3_checkYears hG p) rfl ⟨by rw [hRm]; decide, by rw [hRm]; decide⟩ (Nat.le_of_ble_eq_true rfl) rfl (fun v h1' hp => ?_) (fun E h9 hx => VX.out hF hT ⟨hx.1, hx.2.1, hx.2.2⟩)
  obtain ⟨rfl, hx, he⟩ := hp
  rw [he]
  show V G F _ _ _ 4 [some (.ref (A 0)), some (.int p), none, none, none, none, none, none] [] h
  refine V.less (Nat.zero_le _) (Nat.zero_le _) (?_ : V G F _ 0 0 4 [some (.ref (A 0)), some (.int p), none, none, none, none, none, none] [] h)
  have loop : ∀ i, i ≤ 8 → V G F (fin G F (fun v h' => inY p ∧ is_i (gMI σ p (gT σ)) h v h') (fun E h' => E = eA ∧ ¬ inY p ∧ h' = h)) 0 0 18 [some (.ref (A 0)), some (.int (p)), some (.int (gMI σ p (min i (gT σ)))), some (.ref (A 2)), some (.int (nI 8)), some (.int (nI i)), none, none] [] h := by
    refine lp_up 8 fun i hi ih => ?_
    refine V.run hF [(.iload 5, 2, .null), (.iload 4, 2, .null)] (pc' := 22) (L' := [some (.ref (A 0)), some (.int p), some (.int (gMI σ p (min i (gT σ)))), some (.ref (A 2)), some (.int (nI 8)), some (.int (nI i)), none, none]) (st' := [.int (nI 8), .int (nI i)]) (by decide +kernel) rfl ?_
    refine V.icmpN_ge (i := i) (j := 8) hF (off := 51) (tgt := 73) (by decide +kernel) (by decide) (by omega) (by omega) (fun c1 => ?_) (fun c1 => ?_)
    · have e : min i (gT σ) = gT σ := by omega
      refine V.run hF [(.iload_n 2, 1, .null)] (pc' := 74) (L' := [some (.ref (A 0)), some (.int p), some (.int (gMI σ p (min i (gT σ)))), some (.ref (A 2)), some (.int (nI 8)), some (.int (nI i)), none, none]) (st' := [.int (gMI σ p (min i (gT σ)))]) (by decide +kernel) rfl ?_
      exact V.reti hF (by decide +kernel) ⟨hx, by rw [e], rfl⟩
    · skip
      refine V.run hF [(.aload_n 3, 1, .null), (.iload 5, 2, .null)] (pc' := 28) (L' := [some (.ref (A 0)), some (.int p), some (.int (gMI σ p (min i (gT σ)))), some (.ref (A 2)), some (.int (nI 8)), some (.int (nI i)), none, none]) (st' := [.int (nI i), .ref (A 2)]) (by decide +kernel) rfl ?_
      by_cases ht : i < gT σ
      · skip
        obtain ⟨e1, e2⟩ := min_s ht
        obtain ⟨t1, t2, t3⟩ := h6 i ht
        refine V.aaldS (j := i) (b := (A (12 + 6 * i))) hG hF (by decide +kernel) h2 (by omega) (by decide) (shf_in ht) ?_
        refine V.run hF [(.astore 6, 2, .null), (.aload 6, 2, .null)] (pc' := 33) (L' := [some (.ref (A 0)), some (.int p), some (.int (gMI σ p (min i (gT σ)))), some (.ref (A 2)), some (.int (nI 8)), some (.int (nI i)), some (.ref (A (12 + 6 * i))), none]) (st' := [.ref (A (12 + 6 * i))]) (by decide +kernel) rfl ?_
        refine V.ifnull1 hF (off := 34) (by decide +kernel) ?_
        refine V.run hF [(.aload_n 0, 1, .null), (.aload 6, 2, .null)] (pc' := 39) (L' := [some (.ref (A 0)), some (.int p), some (.int (gMI σ p (min i (gT σ)))), some (.ref (A 2)), some (.int (nI 8)), some (.int (nI i)), some (.ref (A (12 + 6 * i))), none]) (st' := [.ref (A (12 + 6 * i)), .ref (A 0)]) (by decide +kernel) rfl ?_
        refine V.callV (As := [.ref (A (12 + 6 * i))]) (st := []) hG hF k_RX3_183 (by decide +kernel) (c_X3_yearsLeftOf hG hC hy ht) hA rfl rfl ⟨by rw [hRm]; decide, by rw [hRm]; decide⟩ (Nat.le_of_ble_eq_true rfl) rfl (fun v h_2 gp2 => ?_) (fun E h9 hx => hx.elim)
        obtain ⟨rfl, he_gp2⟩ := gp2
        rw [he_gp2]
        show V G F _ _ _ 42 [some (.ref (A 0)), some (.int p), some (.int (gMI σ p (min i (gT σ)))), some (.ref (A 2)), some (.int (nI 8)), some (.int (nI i)), some (.ref (A (12 + 6 * i))), none] [.int (ytm σ i 10 0)] h
        refine V.run hF [(.istore 7, 2, .null), (.iload 7, 2, .null), (.iconst (-1), 1, .int (-1))] (pc' := 47) (L' := [some (.ref (A 0)), some (.int p), some (.int (gMI σ p (min i (gT σ)))), some (.ref (A 2)), some (.int (nI 8)), some (.int (nI i)), some (.ref (A (12 + 6 * i))), some (.int (ytm σ i 10 0))]) (st' := [.int (-1), .int (ytm σ i 10 0)]) (by decide +kernel) rfl ?_
        refine V.icmp_eq hF (off := 20) (tgt := 67) (by decide +kernel) (by decide) (fun c2 => ?_) (fun c2 => ?_)
        · skip
          refine V.run hF [(.iinc 5 1, 3, .int 1), (.goto (-52), 3, .null)] (pc' := 18) (L' := [some (.ref (A 0)), some (.int p), some (.int (gMI σ p (min i (gT σ)))), some (.ref (A 2)), some (.int (nI 8)), some (.int ((nI i) + 1)), some (.ref (A (12 + 6 * i))), some (.int (ytm σ i 10 0))]) (st' := []) (by decide +kernel) rfl ?_
          rw [nI_1 i]
          have := ih c1
          rw [e1, gMI, sumT, e2, gMl, if_pos c2, Int32.add_zero] at this
          rw [e2]
          exact V.loc (fun j v hv => by
            match j, hv with
              | 0, hv => exact hv
              | 1, hv => exact hv
              | 2, hv => exact hv
              | 3, hv => exact hv
              | 4, hv => exact hv
              | 5, hv => exact hv
              | 6, hv => cases hv
              | 7, hv => cases hv
              | q + 8, hv => cases hv) this
        · skip
          refine V.run hF [(.iload 7, 2, .null), (.iload_n 1, 1, .null)] (pc' := 53) (L' := [some (.ref (A 0)), some (.int p), some (.int (gMI σ p (min i (gT σ)))), some (.ref (A 2)), some (.int (nI 8)), some (.int (nI i)), some (.ref (A (12 + 6 * i))), some (.int (ytm σ i 10 0))]) (st' := [.int p, .int (ytm σ i 10 0)]) (by decide +kernel) rfl ?_
          refine V.icmp_gt hF (off := 14) (tgt := 67) (by decide +kernel) (by decide) (fun c3 => ?_) (fun c3 => ?_)
          · skip
            refine V.run hF [(.iinc 5 1, 3, .int 1), (.goto (-52), 3, .null)] (pc' := 18) (L' := [some (.ref (A 0)), some (.int p), some (.int (gMI σ p (min i (gT σ)))), some (.ref (A 2)), some (.int (nI 8)), some (.int ((nI i) + 1)), some (.ref (A (12 + 6 * i))), some (.int (ytm σ i 10 0))]) (st' := []) (by decide +kernel) rfl ?_
            rw [nI_1 i]
            have := ih c1
            rw [e1, gMI, sumT, e2, gMl, if_neg c2, if_pos c3, Int32.add_zero] at this
            rw [e2]
            exact V.loc (fun j v hv => by
              match j, hv with
              | 0, hv => exact hv
              | 1, hv => exact hv
              | 2, hv => exact hv
              | 3, hv => exact hv
              | 4, hv => exact hv
              | 5, hv => exact hv
              | 6, hv => cases hv
              | 7, hv => cases hv
              | q + 8, hv => cases hv) this
          · skip
            refine V.run hF [(.iload_n 2, 1, .null), (.aload 6, 2, .null)] (pc' := 59) (L' := [some (.ref (A 0)), some (.int p), some (.int (gMI σ p (min i (gT σ)))), some (.ref (A 2)), some (.int (nI 8)), some (.int (nI i)), some (.ref (A (12 + 6 * i))), some (.int (ytm σ i 10 0))]) (st' := [.ref (A (12 + 6 * i)), .int (gMI σ p (min i (gT σ)))]) (by decide +kernel) rfl ?_
            refine V.getf hG hF k_RX3_56 (by decide +kernel) t1 rfl ?_
            refine V.callVN (As := []) (st := [.int (gMI σ p (min i (gT σ)))]) hG hF k_RX3_158 (by decide +kernel) (c_X0_sum hG t2 t3) t2.1 rfl rfl ⟨by rw [hRm]; decide, by rw [hRm]; decide⟩ (Nat.le_of_ble_eq_true rfl) rfl (fun v h_3 gp3 => ?_)
            obtain ⟨rfl, he_gp3⟩ := gp3
            rw [he_gp3]
            show V G F _ _ _ 65 [some (.ref (A 0)), some (.int p), some (.int (gMI σ p (min i (gT σ)))), some (.ref (A 2)), some (.int (nI 8)), some (.int (nI i)), some (.ref (A (12 + 6 * i))), some (.int (ytm σ i 10 0))] [.int (sm (gM σ i) (gn σ i)), .int (gMI σ p (min i (gT σ)))] h
            refine V.run hF [(.iadd, 1, .null), (.istore_n 2, 1, .null), (.iinc 5 1, 3, .int 1), (.goto (-52), 3, .null)] (pc' := 18) (L' := [some (.ref (A 0)), some (.int p), some (.int (gMI σ p (min i (gT σ)) + sm (gM σ i) (gn σ i))), some (.ref (A 2)), some (.int (nI 8)), some (.int ((nI i) + 1)), some (.ref (A (12 + 6 * i))), some (.int (ytm σ i 10 0))]) (st' := []) (by decide +kernel) rfl ?_
            rw [nI_1 i]
            have := ih c1
            rw [e1, gMI, sumT, e2, gMl, if_neg c2, if_neg c3] at this
            rw [e2]
            exact V.loc (fun j v hv => by
              match j, hv with
              | 0, hv => exact hv
              | 1, hv => exact hv
              | 2, hv => exact hv
              | 3, hv => exact hv
              | 4, hv => exact hv
              | 5, hv => exact hv
              | 6, hv => cases hv
              | 7, hv => cases hv
              | q + 8, hv => cases hv) this
      · skip
        refine V.aaldZ (j := i) hG hF (by decide +kernel) h2 (by omega) (by decide) (shf_out ht) ?_
        refine V.run hF [(.astore 6, 2, .null), (.aload 6, 2, .null)] (pc' := 33) (L' := [some (.ref (A 0)), some (.int p), some (.int (gMI σ p (min i (gT σ)))), some (.ref (A 2)), some (.int (nI 8)), some (.int (nI i)), some (.null), none]) (st' := [.null]) (by decide +kernel) rfl ?_
        refine V.ifnull0 hF (off := 34) (tgt := 67) (by decide +kernel) (by decide) ?_
        refine V.run hF [(.iinc 5 1, 3, .int 1), (.goto (-52), 3, .null)] (pc' := 18) (L' := [some (.ref (A 0)), some (.int p), some (.int (gMI σ p (min i (gT σ)))), some (.ref (A 2)), some (.int (nI 8)), some (.int ((nI i) + 1)), some (.null), none]) (st' := []) (by decide +kernel) rfl ?_
        rw [nI_1 i]
        have := ih c1
        rw [min_e ht] at this
        exact V.loc (fun j v hv => by
          match j, hv with
          | 0, hv => exact hv
          | 1, hv => exact hv
          | 2, hv => exact hv
          | 3, hv => exact hv
          | 4, hv => exact hv
          | 5, hv => exact hv
          | 6, hv => cases hv
          | 7, hv => cases hv
          | q + 8, hv => cases hv) this
  refine V.run hF [(.iconst 0, 1, .int 0), (.istore_n 2, 1, .null), (.aload_n 0, 1, .null)] (pc' := 7) (L' := [some (.ref (A 0)), some (.int p), some (.int 0), none, none, none, none, none]) (st' := [.ref (A 0)]) (by decide +kernel) rfl ?_
  refine V.getf hG hF k_RX3_15 (by decide +kernel) hA rfl ?_
  refine V.run hF [(.astore_n 3, 1, .null), (.aload_n 3, 1, .null)] (pc' := 12) (L' := [some (.ref (A 0)), some (.int p), some (.int 0), some (.ref (A 2)), none, none, none, none]) (st' := [.ref (A 2)]) (by decide +kernel) rfl ?_
  refine V.alen hG hF (by decide +kernel) (by decide) h2 ?_
  show V G F _ _ _ 13 [some (.ref (A 0)), some (.int p), some (.int 0), some (.ref (A 2)), none, none, none, none] [.int (nI 8)] h
  refine V.run hF [(.istore 4, 2, .null), (.iconst 0, 1, .int 0), (.istore 5, 2, .null)] (pc' := 18) (L' := [some (.ref (A 0)), some (.int p), some (.int 0), some (.ref (A 2)), some (.int (nI 8)), some (.int 0), none, none]) (st' := []) (by decide +kernel) rfl ?_
  exact loop 0 (Nat.zero_le _)
end Su
