/-! ===== TallyWaxModel: sums and years ===== -/
section Mq
variable {G : Gt} {h : Hp} {B : Nat → Nat} {σ : Sg} {x : Int32} {u : Mu} {md hs : Nat → Int32}
theorem RM.mn (hR : RM σ u) {t : Nat} (ht : t < gT σ) : t < 8 ∧ umn u t = nI (gn σ t) ∧ gn σ t ≤ 12 := by
  have h8 := hR.1
  obtain ⟨-, -, -, em, en, -⟩ := hR.2.2.2.1 t ht
  exact ⟨by omega, em, en⟩
set_option maxHeartbeats 4000000 in
theorem c_X4_melts (hG : GOk G) (hM : MO h B σ x u md hs) (hR : RM σ u) {t y : Nat} (ht : t < gT σ) (hy : y < 2 ^ 31) : Ct G yX4_melts (.code yX4_melts cX4_melts 3 (some .boolean)) 0 0 0 0 [.ref (B 0), .int (nI t), .int (nI y)] h (is_i (tf (gce σ t = 0 ∧ gha σ t < ghe σ (y % 10))) h) pxN := by
  refine Ct.of (by decide +kernel) (Nat.le_of_ble_eq_true rfl) fun F hF hT hN hRm => ?_
  have h8 := hR.1
  obtain ⟨ea, eb, ez, -⟩ := hR.2.2.2.1 t ht
  have eh := hR.2.2.1 (y % 10) (Nat.mod_lt _ (by decide))
  refine V.run hF [(.aload_n 0, 1, .null)] (pc' := 1) (L' := [some (.ref (B 0)), some (.int (nI t)), some (.int (nI y))]) (st' := [.ref (B 0)]) (by decide +kernel) rfl ?_
  refine V.getf hG hF k_RX4_17 (by decide +kernel) hM.2.1 rfl ?_
  refine V.run hF [(.iload_n 1, 1, .null)] (pc' := 5) (L' := [some (.ref (B 0)), some (.int (nI t)), some (.int (nI y))]) (st' := [.int (nI t), .ref (B 2)]) (by decide +kernel) rfl ?_
  refine V.zaldN (j := t) hG hF (by decide +kernel) hM.2.2.2.1 (by omega) (by decide) ?_
  rw [eb]
  refine V.if_ne hF (off := 25) (tgt := 31) (by decide +kernel) (by decide) (fun c1 => ?_) (fun c1 => ?_)
  · skip
    refine V.run hF [(.iconst 0, 1, .int 0)] (pc' := 32) (L' := [some (.ref (B 0)), some (.int (nI t)), some (.int (nI y))]) (st' := [.int 0]) (by decide +kernel) rfl ?_
    exact V.retz hF (by decide +kernel) rfl ⟨by rw [tf, if_neg (fun q => c1 q.1)], rfl⟩
  · skip
    refine V.run hF [(.aload_n 0, 1, .null)] (pc' := 10) (L' := [some (.ref (B 0)), some (.int (nI t)), some (.int (nI y))]) (st' := [.ref (B 0)]) (by decide +kernel) rfl ?_
    refine V.getf hG hF k_RX4_13 (by decide +kernel) hM.2.1 rfl ?_
    refine V.run hF [(.iload_n 1, 1, .null)] (pc' := 14) (L' := [some (.ref (B 0)), some (.int (nI t)), some (.int (nI y))]) (st' := [.int (nI t), .ref (B 1)]) (by decide +kernel) rfl ?_
    refine V.ialdN (j := t) hG hF (by decide +kernel) hM.2.2.1 (by omega) (by decide) ?_
    rw [ea]
    refine V.run hF [(.aload_n 0, 1, .null)] (pc' := 16) (L' := [some (.ref (B 0)), some (.int (nI t)), some (.int (nI y))]) (st' := [.ref (B 0), .int (gha σ t)]) (by decide +kernel) rfl ?_
    refine V.getf hG hF k_RX4_27 (by decide +kernel) hM.2.1 rfl ?_
    refine V.run hF [(.iload_n 2, 1, .null), (.bipush 10, 2, .int (nI 10))] (pc' := 22) (L' := [some (.ref (B 0)), some (.int (nI t)), some (.int (nI y))]) (st' := [.int (nI 10), .int (nI y), .ref (B 5), .int (gha σ t)]) (by decide +kernel) rfl ?_
    refine V.irem hF (by decide +kernel) (nI_ne0 (by decide) (by decide)) ?_
    rw [pk_rem hy (by decide) (by decide)]
    refine V.ialdN (j := y % 10) hG hF (by decide +kernel) hM.2.2.2.2.2.2.1 (Nat.mod_lt _ (by decide)) (by decide) ?_
    rw [eh]
    refine V.icmp_ge hF (off := 7) (tgt := 31) (by decide +kernel) (by decide) (fun c2 => ?_) (fun c2 => ?_)
    · skip
      refine V.run hF [(.iconst 0, 1, .int 0)] (pc' := 32) (L' := [some (.ref (B 0)), some (.int (nI t)), some (.int (nI y))]) (st' := [.int 0]) (by decide +kernel) rfl ?_
      exact V.retz hF (by decide +kernel) rfl ⟨by rw [tf, if_neg (fun q => absurd q.2 (Int32.not_lt.mpr c2))], rfl⟩
    · skip
      refine V.run hF [(.iconst 1, 1, .int 1), (.goto 4, 3, .null)] (pc' := 32) (L' := [some (.ref (B 0)), some (.int (nI t)), some (.int (nI y))]) (st' := [.int 1]) (by decide +kernel) rfl ?_
      exact V.retz hF (by decide +kernel) rfl ⟨by rw [tf, if_pos ⟨Classical.not_not.mp (fun q => q c1), Int32.not_le.mp c2⟩], rfl⟩
set_option maxHeartbeats 4000000 in
theorem c_X4_all (hG : GOk G) (hM : MO h B σ x u md hs) (hR : RM σ u) : Ct G yX4_all (.code yX4_all cX4_all 3 (some .int)) 0 0 0 0 [.ref (B 0)] h (is_i (gLn σ (gT σ)) h) pxN := by
  refine Ct.of (by decide +kernel) (Nat.le_of_ble_eq_true rfl) fun F hF hT hN hRm => ?_
  have h8 := hR.1
  have loop : ∀ t, t ≤ gT σ → V G F (fin G F (is_i (gLn σ (gT σ)) h) pxN) 0 0 4 [some (.ref (B 0)), some (.int (gLn σ t)), some (.int (nI t))] [] h := by
    refine lp_up (gT σ) fun t ht ih => ?_
    refine V.run hF [(.iload_n 2, 1, .null), (.aload_n 0, 1, .null)] (pc' := 6) (L' := [some (.ref (B 0)), some (.int (gLn σ t)), some (.int (nI t))]) (st' := [.ref (B 0), .int (nI t)]) (by decide +kernel) rfl ?_
    refine V.getf hG hF k_RX4_43 (by decide +kernel) hM.2.1 rfl ?_
    refine V.icmpN_ge (i := t) (j := gT σ) hF (off := 18) (tgt := 27) (by decide +kernel) (by decide) (by omega) (by omega) (fun c1 => ?_) (fun c1 => ?_)
    · have e : t = gT σ := by omega
      refine V.run hF [(.iload_n 1, 1, .null)] (pc' := 28) (L' := [some (.ref (B 0)), some (.int (gLn σ t)), some (.int (nI t))]) (st' := [.int (gLn σ t)]) (by decide +kernel) rfl ?_
      exact V.reti hF (by decide +kernel) ⟨by rw [e], rfl⟩
    · skip
      have c1 : t < gT σ := by omega
      obtain ⟨e1, e2, e3⟩ := hR.mn c1
      refine V.run hF [(.iload_n 1, 1, .null), (.aload_n 0, 1, .null)] (pc' := 14) (L' := [some (.ref (B 0)), some (.int (gLn σ t)), some (.int (nI t))]) (st' := [.ref (B 0), .int (gLn σ t)]) (by decide +kernel) rfl ?_
      refine V.getf hG hF k_RX4_21 (by decide +kernel) hM.2.1 rfl ?_
      refine V.run hF [(.iload_n 2, 1, .null)] (pc' := 18) (L' := [some (.ref (B 0)), some (.int (gLn σ t)), some (.int (nI t))]) (st' := [.int (nI t), .ref (B 3), .int (gLn σ t)]) (by decide +kernel) rfl ?_
      refine V.ialdN (j := t) hG hF (by decide +kernel) hM.2.2.2.2.1 (by omega) (by decide) ?_
      rw [e2]
      refine V.run hF [(.iadd, 1, .null), (.istore_n 1, 1, .null), (.iinc 2 1, 3, .int 1), (.goto (-20), 3, .null)] (pc' := 4) (L' := [some (.ref (B 0)), some (.int (gLn σ t + nI (gn σ t))), some (.int ((nI t) + 1))]) (st' := []) (by decide +kernel) rfl ?_
      rw [nI_1 t]
      exact ih c1
  refine V.run hF [(.iconst 0, 1, .int 0), (.istore_n 1, 1, .null), (.iconst 0, 1, .int (nI 0)), (.istore_n 2, 1, .null)] (pc' := 4) (L' := [some (.ref (B 0)), some (.int 0), some (.int (nI 0))]) (st' := []) (by decide +kernel) rfl ?_
  exact loop 0 (Nat.zero_le _)
set_option maxHeartbeats 4000000 in
theorem c_X4_sum (hG : GOk G) (hM : MO h B σ x u md hs) (hR : RM σ u) : Ct G yX4_sum (.code yX4_sum cX4_sum 4 (some .int)) 2 44 0 0 [.ref (B 0)] h (is_i (gTo σ (gT σ)) h) pxN := by
  refine Ct.of (by decide +kernel) (Nat.le_of_ble_eq_true rfl) fun F hF hT hN hRm => ?_
  have h8 := hR.1
  have loop : ∀ t, t ≤ gT σ → ∀ z, V G F (fin G F (is_i (gTo σ (gT σ)) h) pxN) 0 0 4 [some (.ref (B 0)), some (.int (gTo σ t)), some (.int (nI t)), z] [] h := by
    refine lp_up (gT σ) fun t ht ih => ?_
    intro z
    refine V.loc (L' := [some (.ref (B 0)), some (.int (gTo σ t)), some (.int (nI t)), none]) (fun j v hv => by
      match j, hv with
      | 0, hv => exact hv
      | 1, hv => exact hv
      | 2, hv => exact hv
      | 3, hv => cases hv
      | q + 4, hv => cases hv) ?_
    refine V.run hF [(.iload_n 2, 1, .null), (.aload_n 0, 1, .null)] (pc' := 6) (L' := [some (.ref (B 0)), some (.int (gTo σ t)), some (.int (nI t)), none]) (st' := [.ref (B 0), .int (nI t)]) (by decide +kernel) rfl ?_
    refine V.getf hG hF k_RX4_43 (by decide +kernel) hM.2.1 rfl ?_
    refine V.icmpN_ge (i := t) (j := gT σ) hF (off := 37) (tgt := 46) (by decide +kernel) (by decide) (by omega) (by omega) (fun c1 => ?_) (fun c1 => ?_)
    · have e : t = gT σ := by omega
      refine V.run hF [(.iload_n 1, 1, .null)] (pc' := 47) (L' := [some (.ref (B 0)), some (.int (gTo σ t)), some (.int (nI t)), none]) (st' := [.int (gTo σ t)]) (by decide +kernel) rfl ?_
      exact V.reti hF (by decide +kernel) ⟨by rw [e], rfl⟩
    · skip
      have c1 : t < gT σ := by omega
      obtain ⟨e1, e2, e3⟩ := hR.mn c1
      have inner : ∀ l, l ≤ gn σ t → V G F (fin G F (is_i (gTo σ (gT σ)) h) pxN) 0 0 14 [some (.ref (B 0)), some (.int (gTo σ t + sm (gM σ t) l)), some (.int (nI t)), some (.int (nI l))] [] h := by
        refine lp_up (gn σ t) fun l hl ih2 => ?_
        refine V.run hF [(.iload_n 3, 1, .null), (.aload_n 0, 1, .null)] (pc' := 16) (L' := [some (.ref (B 0)), some (.int (gTo σ t + sm (gM σ t) l)), some (.int (nI t)), some (.int (nI l))]) (st' := [.ref (B 0), .int (nI l)]) (by decide +kernel) rfl ?_
        refine V.getf hG hF k_RX4_21 (by decide +kernel) hM.2.1 rfl ?_
        refine V.run hF [(.iload_n 2, 1, .null)] (pc' := 20) (L' := [some (.ref (B 0)), some (.int (gTo σ t + sm (gM σ t) l)), some (.int (nI t)), some (.int (nI l))]) (st' := [.int (nI t), .ref (B 3), .int (nI l)]) (by decide +kernel) rfl ?_
        refine V.ialdN (j := t) hG hF (by decide +kernel) hM.2.2.2.2.1 (by omega) (by decide) ?_
        rw [e2]
        refine V.icmpN_ge (i := l) (j := gn σ t) hF (off := 19) (tgt := 40) (by decide +kernel) (by decide) (by omega) (by omega) (fun c2 => ?_) (fun c2 => ?_)
        · have e : l = gn σ t := by omega
          rw [e]
          refine V.run hF [(.iinc 2 1, 3, .int 1), (.goto (-39), 3, .null)] (pc' := 4) (L' := [some (.ref (B 0)), some (.int (gTo σ t + sm (gM σ t) (gn σ t))), some (.int ((nI t) + 1)), some (.int (nI (gn σ t)))]) (st' := []) (by decide +kernel) rfl ?_
          rw [nI_1 t]
          exact ih c1 _
        · skip
          have c2 : l < gn σ t := by omega
          refine V.run hF [(.iload_n 1, 1, .null), (.aload_n 0, 1, .null), (.iload_n 2, 1, .null), (.iload_n 3, 1, .null), (.iconst 2, 1, .int 2)] (pc' := 29) (L' := [some (.ref (B 0)), some (.int (gTo σ t + sm (gM σ t) l)), some (.int (nI t)), some (.int (nI l))]) (st' := [.int 2, .int (nI l), .int (nI t), .ref (B 0), .int (gTo σ t + sm (gM σ t) l)]) (by decide +kernel) rfl ?_
          refine V.callV (As := [.int (nI t), .int (nI l), .int 2]) (st := [.int (gTo σ t + sm (gM σ t) l)]) hG hF k_RX4_60 (by decide +kernel) (c_X4_ofM hG hM hR c1 c2) hM.2.1 rfl rfl ⟨by rw [hRm]; decide, by rw [hRm]; decide⟩ (Nat.le_of_ble_eq_true rfl) rfl (fun v h_1 gp1 => ?_) (fun E h9 hx => hx.elim)
          obtain ⟨rfl, he_gp1⟩ := gp1
          rw [he_gp1]
          show V G F _ _ _ 32 [some (.ref (B 0)), some (.int (gTo σ t + sm (gM σ t) l)), some (.int (nI t)), some (.int (nI l))] [.int (gM σ t l), .int (gTo σ t + sm (gM σ t) l)] h
          refine V.run hF [(.iadd, 1, .null), (.istore_n 1, 1, .null), (.iinc 3 1, 3, .int 1), (.goto (-23), 3, .null)] (pc' := 14) (L' := [some (.ref (B 0)), some (.int ((gTo σ t + sm (gM σ t) l) + gM σ t l)), some (.int (nI t)), some (.int ((nI l) + 1))]) (st' := []) (by decide +kernel) rfl ?_
          rw [nI_1 l]
          have := ih2 c2
          rw [sm, ← Int32.add_assoc] at this
          exact this
      refine V.run hF [(.iconst 0, 1, .int (nI 0)), (.istore_n 3, 1, .null)] (pc' := 14) (L' := [some (.ref (B 0)), some (.int (gTo σ t)), some (.int (nI t)), some (.int (nI 0))]) (st' := []) (by decide +kernel) rfl ?_
      have := inner 0 (Nat.zero_le _)
      rw [sm, Int32.add_zero] at this
      exact this
  refine V.run hF [(.iconst 0, 1, .int 0), (.istore_n 1, 1, .null), (.iconst 0, 1, .int (nI 0)), (.istore_n 2, 1, .null)] (pc' := 4) (L' := [some (.ref (B 0)), some (.int 0), some (.int (nI 0)), none]) (st' := []) (by decide +kernel) rfl ?_
  exact loop 0 (Nat.zero_le _) none
set_option maxHeartbeats 4000000 in
theorem c_X4_owing (hG : GOk G) (hM : MO h B σ x u md hs) (hR : RM σ u) {p q : Int32} : Ct G yX4_owing (.code yX4_owing cX4_owing 6 (some .int)) 2 44 0 0 [.ref (B 0), .int p, .int q] h (is_i (gOw σ p q (gT σ)) h) pxN := by
  refine Ct.of (by decide +kernel) (Nat.le_of_ble_eq_true rfl) fun F hF hT hN hRm => ?_
  have h8 := hR.1
  have loop : ∀ t, t ≤ gT σ → ∀ z, V G F (fin G F (is_i (gOw σ p q (gT σ)) h) pxN) 0 0 5 [some (.ref (B 0)), some (.int p), some (.int q), some (.int (gOw σ p q t)), some (.int (nI t)), z] [] h := by
    refine lp_up (gT σ) fun t ht ih => ?_
    intro z
    refine V.loc (L' := [some (.ref (B 0)), some (.int p), some (.int q), some (.int (gOw σ p q t)), some (.int (nI t)), none]) (fun j v hv => by
      match j, hv with
      | 0, hv => exact hv
      | 1, hv => exact hv
      | 2, hv => exact hv
      | 3, hv => exact hv
      | 4, hv => exact hv
      | 5, hv => cases hv
      | q + 6, hv => cases hv) ?_
    refine V.run hF [(.iload 4, 2, .null), (.aload_n 0, 1, .null)] (pc' := 8) (L' := [some (.ref (B 0)), some (.int p), some (.int q), some (.int (gOw σ p q t)), some (.int (nI t)), none]) (st' := [.ref (B 0), .int (nI t)]) (by decide +kernel) rfl ?_
    refine V.getf hG hF k_RX4_43 (by decide +kernel) hM.2.1 rfl ?_
    refine V.icmpN_ge (i := t) (j := gT σ) hF (off := 72) (tgt := 83) (by decide +kernel) (by decide) (by omega) (by omega) (fun c1 => ?_) (fun c1 => ?_)
    · have e : t = gT σ := by omega
      refine V.run hF [(.iload_n 3, 1, .null)] (pc' := 84) (L' := [some (.ref (B 0)), some (.int p), some (.int q), some (.int (gOw σ p q t)), some (.int (nI t)), none]) (st' := [.int (gOw σ p q t)]) (by decide +kernel) rfl ?_
      exact V.reti hF (by decide +kernel) ⟨by rw [e], rfl⟩
    · skip
      have c1 : t < gT σ := by omega
      obtain ⟨e1, e2, e3⟩ := hR.mn c1
      have inner : ∀ l, l ≤ gn σ t → V G F (fin G F (is_i (gOw σ p q (gT σ)) h) pxN) 0 0 17 [some (.ref (B 0)), some (.int p), some (.int q), some (.int (gOw σ p q t + owe (gDD σ t) (gC σ t) (gM σ t) p q l)), some (.int (nI t)), some (.int (nI l))] [] h := by
        refine lp_up (gn σ t) fun l hl ih2 => ?_
        refine V.run hF [(.iload 5, 2, .null), (.aload_n 0, 1, .null)] (pc' := 20) (L' := [some (.ref (B 0)), some (.int p), some (.int q), some (.int (gOw σ p q t + owe (gDD σ t) (gC σ t) (gM σ t) p q l)), some (.int (nI t)), some (.int (nI l))]) (st' := [.ref (B 0), .int (nI l)]) (by decide +kernel) rfl ?_
        refine V.getf hG hF k_RX4_21 (by decide +kernel) hM.2.1 rfl ?_
        refine V.run hF [(.iload 4, 2, .null)] (pc' := 25) (L' := [some (.ref (B 0)), some (.int p), some (.int q), some (.int (gOw σ p q t + owe (gDD σ t) (gC σ t) (gM σ t) p q l)), some (.int (nI t)), some (.int (nI l))]) (st' := [.int (nI t), .ref (B 3), .int (nI l)]) (by decide +kernel) rfl ?_
        refine V.ialdN (j := t) hG hF (by decide +kernel) hM.2.2.2.2.1 (by omega) (by decide) ?_
        rw [e2]
        refine V.icmpN_ge (i := l) (j := gn σ t) hF (off := 51) (tgt := 77) (by decide +kernel) (by decide) (by omega) (by omega) (fun c2 => ?_) (fun c2 => ?_)
        · have e : l = gn σ t := by omega
          rw [e]
          refine V.run hF [(.iinc 4 1, 3, .int 1), (.goto (-75), 3, .null)] (pc' := 5) (L' := [some (.ref (B 0)), some (.int p), some (.int q), some (.int (gOw σ p q t + owe (gDD σ t) (gC σ t) (gM σ t) p q (gn σ t))), some (.int ((nI t) + 1)), some (.int (nI (gn σ t)))]) (st' := []) (by decide +kernel) rfl ?_
          rw [nI_1 t]
          exact ih c1 _
        · skip
          have c2 : l < gn σ t := by omega
          refine V.run hF [(.iload_n 3, 1, .null), (.aload_n 0, 1, .null), (.iload 4, 2, .null), (.iload 5, 2, .null), (.iconst 0, 1, .int 0)] (pc' := 36) (L' := [some (.ref (B 0)), some (.int p), some (.int q), some (.int (gOw σ p q t + owe (gDD σ t) (gC σ t) (gM σ t) p q l)), some (.int (nI t)), some (.int (nI l))]) (st' := [.int 0, .int (nI l), .int (nI t), .ref (B 0), .int (gOw σ p q t + owe (gDD σ t) (gC σ t) (gM σ t) p q l)]) (by decide +kernel) rfl ?_
          refine V.callV (As := [.int (nI t), .int (nI l), .int 0]) (st := [.int (gOw σ p q t + owe (gDD σ t) (gC σ t) (gM σ t) p q l)]) hG hF k_RX4_60 (by decide +kernel) (c_X4_ofD hG hM hR c1 c2) hM.2.1 rfl rfl ⟨by rw [hRm]; decide, by rw [hRm]; decide⟩ (Nat.le_of_ble_eq_true rfl) rfl (fun v h_1 gp1 => ?_) (fun E h9 hx => hx.elim)
          obtain ⟨rfl, he_gp1⟩ := gp1
          rw [he_gp1]
          show V G F _ _ _ 39 [some (.ref (B 0)), some (.int p), some (.int q), some (.int (gOw σ p q t + owe (gDD σ t) (gC σ t) (gM σ t) p q l)), some (.int (nI t)), some (.int (nI l))] [.int (gDD σ t l), .int (gOw σ p q t + owe (gDD σ t) (gC σ t) (gM σ t) p q l)] h
          refine V.run hF [(.iload_n 1, 1, .null)] (pc' := 40) (L' := [some (.ref (B 0)), some (.int p), some (.int q), some (.int (gOw σ p q t + owe (gDD σ t) (gC σ t) (gM σ t) p q l)), some (.int (nI t)), some (.int (nI l))]) (st' := [.int p, .int (gDD σ t l), .int (gOw σ p q t + owe (gDD σ t) (gC σ t) (gM σ t) p q l)]) (by decide +kernel) rfl ?_
          have nx : ∀ y : Int32, y = (if gDD σ t l = p ∧ gC σ t l = q then gM σ t l else 0) → gOw σ p q t + owe (gDD σ t) (gC σ t) (gM σ t) p q l + y = gOw σ p q t + owe (gDD σ t) (gC σ t) (gM σ t) p q (l + 1) := fun y e => by
            rw [e]
            by_cases z : gDD σ t l = p ∧ gC σ t l = q
            · rw [if_pos z, owe, if_pos z, Int32.add_assoc]
            · rw [if_neg z, owe, if_neg z, Int32.add_zero]
          refine V.icmp_ne hF (off := 28) (tgt := 68) (by decide +kernel) (by decide) (fun c3 => ?_) (fun c3 => ?_)
          · skip
            refine V.run hF [(.iconst 0, 1, .int 0), (.iadd, 1, .null), (.istore_n 3, 1, .null), (.iinc 5 1, 3, .int 1), (.goto (-57), 3, .null)] (pc' := 17) (L' := [some (.ref (B 0)), some (.int p), some (.int q), some (.int ((gOw σ p q t + owe (gDD σ t) (gC σ t) (gM σ t) p q l) + 0)), some (.int (nI t)), some (.int ((nI l) + 1))]) (st' := []) (by decide +kernel) rfl ?_
            rw [nI_1 l]
            have := ih2 c2
            rw [← nx 0 (by rw [if_neg (fun z => c3 z.1)])] at this
            exact this
          · skip
            refine V.run hF [(.aload_n 0, 1, .null), (.iload 4, 2, .null), (.iload 5, 2, .null), (.iconst 1, 1, .int 1)] (pc' := 49) (L' := [some (.ref (B 0)), some (.int p), some (.int q), some (.int (gOw σ p q t + owe (gDD σ t) (gC σ t) (gM σ t) p q l)), some (.int (nI t)), some (.int (nI l))]) (st' := [.int 1, .int (nI l), .int (nI t), .ref (B 0), .int (gOw σ p q t + owe (gDD σ t) (gC σ t) (gM σ t) p q l)]) (by decide +kernel) rfl ?_
            refine V.callV (As := [.int (nI t), .int (nI l), .int 1]) (st := [.int (gOw σ p q t + owe (gDD σ t) (gC σ t) (gM σ t) p q l)]) hG hF k_RX4_60 (by decide +kernel) (c_X4_ofC hG hM hR c1 c2) hM.2.1 rfl rfl ⟨by rw [hRm]; decide, by rw [hRm]; decide⟩ (Nat.le_of_ble_eq_true rfl) rfl (fun v h_2 gp2 => ?_) (fun E h9 hx => hx.elim)
            obtain ⟨rfl, he_gp2⟩ := gp2
            rw [he_gp2]
            show V G F _ _ _ 52 [some (.ref (B 0)), some (.int p), some (.int q), some (.int (gOw σ p q t + owe (gDD σ t) (gC σ t) (gM σ t) p q l)), some (.int (nI t)), some (.int (nI l))] [.int (gC σ t l), .int (gOw σ p q t + owe (gDD σ t) (gC σ t) (gM σ t) p q l)] h
            refine V.run hF [(.iload_n 2, 1, .null)] (pc' := 53) (L' := [some (.ref (B 0)), some (.int p), some (.int q), some (.int (gOw σ p q t + owe (gDD σ t) (gC σ t) (gM σ t) p q l)), some (.int (nI t)), some (.int (nI l))]) (st' := [.int q, .int (gC σ t l), .int (gOw σ p q t + owe (gDD σ t) (gC σ t) (gM σ t) p q l)]) (by decide +kernel) rfl ?_
            refine V.icmp_ne hF (off := 15) (tgt := 68) (by decide +kernel) (by decide) (fun c4 => ?_) (fun c4 => ?_)
            · skip
              refine V.run hF [(.iconst 0, 1, .int 0), (.iadd, 1, .null), (.istore_n 3, 1, .null), (.iinc 5 1, 3, .int 1), (.goto (-57), 3, .null)] (pc' := 17) (L' := [some (.ref (B 0)), some (.int p), some (.int q), some (.int ((gOw σ p q t + owe (gDD σ t) (gC σ t) (gM σ t) p q l) + 0)), some (.int (nI t)), some (.int ((nI l) + 1))]) (st' := []) (by decide +kernel) rfl ?_
              rw [nI_1 l]
              have := ih2 c2
              rw [← nx 0 (by rw [if_neg (fun z => c4 z.2)])] at this
              exact this
            · skip
              refine V.run hF [(.aload_n 0, 1, .null), (.iload 4, 2, .null), (.iload 5, 2, .null), (.iconst 2, 1, .int 2)] (pc' := 62) (L' := [some (.ref (B 0)), some (.int p), some (.int q), some (.int (gOw σ p q t + owe (gDD σ t) (gC σ t) (gM σ t) p q l)), some (.int (nI t)), some (.int (nI l))]) (st' := [.int 2, .int (nI l), .int (nI t), .ref (B 0), .int (gOw σ p q t + owe (gDD σ t) (gC σ t) (gM σ t) p q l)]) (by decide +kernel) rfl ?_
              refine V.callV (As := [.int (nI t), .int (nI l), .int 2]) (st := [.int (gOw σ p q t + owe (gDD σ t) (gC σ t) (gM σ t) p q l)]) hG hF k_RX4_60 (by decide +kernel) (c_X4_ofM hG hM hR c1 c2) hM.2.1 rfl rfl ⟨by rw [hRm]; decide, by rw [hRm]; decide⟩ (Nat.le_of_ble_eq_true rfl) rfl (fun v h_3 gp3 => ?_) (fun E h9 hx => hx.elim)
              obtain ⟨rfl, he_gp3⟩ := gp3
              rw [he_gp3]
              show V G F _ _ _ 65 [some (.ref (B 0)), some (.int p), some (.int q), some (.int (gOw σ p q t + owe (gDD σ t) (gC σ t) (gM σ t) p q l)), some (.int (nI t)), some (.int (nI l))] [.int (gM σ t l), .int (gOw σ p q t + owe (gDD σ t) (gC σ t) (gM σ t) p q l)] h
              refine V.run hF [(.goto 4, 3, .null), (.iadd, 1, .null), (.istore_n 3, 1, .null), (.iinc 5 1, 3, .int 1), (.goto (-57), 3, .null)] (pc' := 17) (L' := [some (.ref (B 0)), some (.int p), some (.int q), some (.int ((gOw σ p q t + owe (gDD σ t) (gC σ t) (gM σ t) p q l) + gM σ t l)), some (.int (nI t)), some (.int ((nI l) + 1))]) (st' := []) (by decide +kernel) rfl ?_
              rw [nI_1 l]
              have := ih2 c2
              rw [← nx (gM σ t l) (by rw [if_pos ⟨c3, c4⟩])] at this
              exact this
      refine V.run hF [(.iconst 0, 1, .int (nI 0)), (.istore 5, 2, .null)] (pc' := 17) (L' := [some (.ref (B 0)), some (.int p), some (.int q), some (.int (gOw σ p q t)), some (.int (nI t)), some (.int (nI 0))]) (st' := []) (by decide +kernel) rfl ?_
      have := inner 0 (Nat.zero_le _)
      rw [owe, Int32.add_zero] at this
      exact this
  refine V.run hF [(.iconst 0, 1, .int 0), (.istore_n 3, 1, .null), (.iconst 0, 1, .int (nI 0)), (.istore 4, 2, .null)] (pc' := 5) (L' := [some (.ref (B 0)), some (.int p), some (.int q), some (.int 0), some (.int (nI 0)), none]) (st' := []) (by decide +kernel) rfl ?_
  exact loop 0 (Nat.zero_le _) none
set_option maxHeartbeats 4000000 in
theorem c_X4_risk1 (hG : GOk G) (hM : MO h B σ x u md hs) (hR : RM σ u) {p : Nat} (hp : p < 8) (hth : ¬ gth σ p = 0) : Ct G yX4_risk (.code yX4_risk cX4_risk 5 (some .int)) 2 44 0 0 [.ref (B 0), .int (nI p)] h (is_i (gRk σ (nI p) (gT σ)) h) pxN := by
  refine Ct.of (by decide +kernel) (Nat.le_of_ble_eq_true rfl) fun F hF hT hN hRm => ?_
  have h8 := hR.1
  have loop : ∀ t, t ≤ gT σ → ∀ z, V G F (fin G F (is_i (gRk σ (nI p) (gT σ)) h) pxN) 0 0 4 [some (.ref (B 0)), some (.int (nI p)), some (.int (gRk σ (nI p) t)), some (.int (nI t)), z] [] h := by
    refine lp_up (gT σ) fun t ht ih => ?_
    intro z
    refine V.loc (L' := [some (.ref (B 0)), some (.int (nI p)), some (.int (gRk σ (nI p) t)), some (.int (nI t)), none]) (fun j v hv => by
      match j, hv with
      | 0, hv => exact hv
      | 1, hv => exact hv
      | 2, hv => exact hv
      | 3, hv => exact hv
      | 4, hv => cases hv
      | q + 5, hv => cases hv) ?_
    refine V.run hF [(.iload_n 3, 1, .null), (.aload_n 0, 1, .null)] (pc' := 6) (L' := [some (.ref (B 0)), some (.int (nI p)), some (.int (gRk σ (nI p) t)), some (.int (nI t)), none]) (st' := [.ref (B 0), .int (nI t)]) (by decide +kernel) rfl ?_
    refine V.getf hG hF k_RX4_43 (by decide +kernel) hM.2.1 rfl ?_
    refine V.icmpN_ge (i := t) (j := gT σ) hF (off := 64) (tgt := 73) (by decide +kernel) (by decide) (by omega) (by omega) (fun c1 => ?_) (fun c1 => ?_)
    · have e : t = gT σ := by omega
      refine V.run hF [(.iload_n 2, 1, .null)] (pc' := 74) (L' := [some (.ref (B 0)), some (.int (nI p)), some (.int (gRk σ (nI p) t)), some (.int (nI t)), none]) (st' := [.int (gRk σ (nI p) t)]) (by decide +kernel) rfl ?_
      exact V.reti hF (by decide +kernel) ⟨by rw [e], rfl⟩
    · skip
      have c1 : t < gT σ := by omega
      obtain ⟨e1, e2, e3⟩ := hR.mn c1
      refine V.run hF [(.aload_n 0, 1, .null), (.iload_n 1, 1, .null)] (pc' := 14) (L' := [some (.ref (B 0)), some (.int (nI p)), some (.int (gRk σ (nI p) t)), some (.int (nI t)), none]) (st' := [.int (nI p), .ref (B 0)]) (by decide +kernel) rfl ?_
      refine V.callV (As := [.int (nI p)]) (st := []) hG hF k_RX4_64 (by decide +kernel) (c_X4_is hG hM hR hp) hM.2.1 rfl rfl ⟨by rw [hRm]; decide, by rw [hRm]; decide⟩ (Nat.le_of_ble_eq_true rfl) rfl (fun v h_1 gp1 => ?_) (fun E h9 hx => hx.elim)
      obtain ⟨rfl, he_gp1⟩ := gp1
      rw [he_gp1]
      show V G F _ _ _ 17 [some (.ref (B 0)), some (.int (nI p)), some (.int (gRk σ (nI p) t)), some (.int (nI t)), none] [.int (gth σ p)] h
      refine V.if_eq hF (off := 56) (tgt := 73) (by decide +kernel) (by decide) (fun c0 => ?_) (fun c0 => ?_)
      · exact absurd c0 hth
      have inner : ∀ l, l ≤ gn σ t → V G F (fin G F (is_i (gRk σ (nI p) (gT σ)) h) pxN) 0 0 23 [some (.ref (B 0)), some (.int (nI p)), some (.int (gRk σ (nI p) t + wit (gM σ t) (gW σ t) (nI p) l)), some (.int (nI t)), some (.int (nI l))] [] h := by
        refine lp_up (gn σ t) fun l hl ih2 => ?_
        refine V.run hF [(.iload 4, 2, .null), (.aload_n 0, 1, .null)] (pc' := 26) (L' := [some (.ref (B 0)), some (.int (nI p)), some (.int (gRk σ (nI p) t + wit (gM σ t) (gW σ t) (nI p) l)), some (.int (nI t)), some (.int (nI l))]) (st' := [.ref (B 0), .int (nI l)]) (by decide +kernel) rfl ?_
        refine V.getf hG hF k_RX4_21 (by decide +kernel) hM.2.1 rfl ?_
        refine V.run hF [(.iload_n 3, 1, .null)] (pc' := 30) (L' := [some (.ref (B 0)), some (.int (nI p)), some (.int (gRk σ (nI p) t + wit (gM σ t) (gW σ t) (nI p) l)), some (.int (nI t)), some (.int (nI l))]) (st' := [.int (nI t), .ref (B 3), .int (nI l)]) (by decide +kernel) rfl ?_
        refine V.ialdN (j := t) hG hF (by decide +kernel) hM.2.2.2.2.1 (by omega) (by decide) ?_
        rw [e2]
        refine V.icmpN_ge (i := l) (j := gn σ t) hF (off := 36) (tgt := 67) (by decide +kernel) (by decide) (by omega) (by omega) (fun c2 => ?_) (fun c2 => ?_)
        · have e : l = gn σ t := by omega
          rw [e]
          refine V.run hF [(.iinc 3 1, 3, .int 1), (.goto (-66), 3, .null)] (pc' := 4) (L' := [some (.ref (B 0)), some (.int (nI p)), some (.int (gRk σ (nI p) t + wit (gM σ t) (gW σ t) (nI p) (gn σ t))), some (.int ((nI t) + 1)), some (.int (nI (gn σ t)))]) (st' := []) (by decide +kernel) rfl ?_
          rw [nI_1 t]
          exact ih c1 _
        · skip
          have c2 : l < gn σ t := by omega
          refine V.run hF [(.iload_n 2, 1, .null), (.aload_n 0, 1, .null), (.iload_n 3, 1, .null), (.iload 4, 2, .null), (.iconst 3, 1, .int 3)] (pc' := 40) (L' := [some (.ref (B 0)), some (.int (nI p)), some (.int (gRk σ (nI p) t + wit (gM σ t) (gW σ t) (nI p) l)), some (.int (nI t)), some (.int (nI l))]) (st' := [.int 3, .int (nI l), .int (nI t), .ref (B 0), .int (gRk σ (nI p) t + wit (gM σ t) (gW σ t) (nI p) l)]) (by decide +kernel) rfl ?_
          refine V.callV (As := [.int (nI t), .int (nI l), .int 3]) (st := [.int (gRk σ (nI p) t + wit (gM σ t) (gW σ t) (nI p) l)]) hG hF k_RX4_60 (by decide +kernel) (c_X4_ofW hG hM hR c1 c2) hM.2.1 rfl rfl ⟨by rw [hRm]; decide, by rw [hRm]; decide⟩ (Nat.le_of_ble_eq_true rfl) rfl (fun v h_2 gp2 => ?_) (fun E h9 hx => hx.elim)
          obtain ⟨rfl, he_gp2⟩ := gp2
          rw [he_gp2]
          show V G F _ _ _ 43 [some (.ref (B 0)), some (.int (nI p)), some (.int (gRk σ (nI p) t + wit (gM σ t) (gW σ t) (nI p) l)), some (.int (nI t)), some (.int (nI l))] [.int (gW σ t l), .int (gRk σ (nI p) t + wit (gM σ t) (gW σ t) (nI p) l)] h
          refine V.run hF [(.iload_n 1, 1, .null)] (pc' := 44) (L' := [some (.ref (B 0)), some (.int (nI p)), some (.int (gRk σ (nI p) t + wit (gM σ t) (gW σ t) (nI p) l)), some (.int (nI t)), some (.int (nI l))]) (st' := [.int (nI p), .int (gW σ t l), .int (gRk σ (nI p) t + wit (gM σ t) (gW σ t) (nI p) l)]) (by decide +kernel) rfl ?_
          have nx : ∀ y : Int32, y = (if gW σ t l = nI p then gM σ t l else 0) → gRk σ (nI p) t + wit (gM σ t) (gW σ t) (nI p) l + y = gRk σ (nI p) t + wit (gM σ t) (gW σ t) (nI p) (l + 1) := fun y e => by
            rw [e]
            by_cases z : gW σ t l = nI p
            · rw [if_pos z, wit, if_pos z, Int32.add_assoc]
            · rw [if_neg z, wit, if_neg z, Int32.add_zero]
          refine V.icmp_ne hF (off := 14) (tgt := 58) (by decide +kernel) (by decide) (fun c3 => ?_) (fun c3 => ?_)
          · skip
            refine V.run hF [(.iconst 0, 1, .int 0), (.iadd, 1, .null), (.istore_n 2, 1, .null), (.iinc 4 1, 3, .int 1), (.goto (-41), 3, .null)] (pc' := 23) (L' := [some (.ref (B 0)), some (.int (nI p)), some (.int ((gRk σ (nI p) t + wit (gM σ t) (gW σ t) (nI p) l) + 0)), some (.int (nI t)), some (.int ((nI l) + 1))]) (st' := []) (by decide +kernel) rfl ?_
            rw [nI_1 l]
            have := ih2 c2
            rw [← nx 0 (by rw [if_neg c3])] at this
            exact this
          · skip
            refine V.run hF [(.aload_n 0, 1, .null), (.iload_n 3, 1, .null), (.iload 4, 2, .null), (.iconst 2, 1, .int 2)] (pc' := 52) (L' := [some (.ref (B 0)), some (.int (nI p)), some (.int (gRk σ (nI p) t + wit (gM σ t) (gW σ t) (nI p) l)), some (.int (nI t)), some (.int (nI l))]) (st' := [.int 2, .int (nI l), .int (nI t), .ref (B 0), .int (gRk σ (nI p) t + wit (gM σ t) (gW σ t) (nI p) l)]) (by decide +kernel) rfl ?_
            refine V.callV (As := [.int (nI t), .int (nI l), .int 2]) (st := [.int (gRk σ (nI p) t + wit (gM σ t) (gW σ t) (nI p) l)]) hG hF k_RX4_60 (by decide +kernel) (c_X4_ofM hG hM hR c1 c2) hM.2.1 rfl rfl ⟨by rw [hRm]; decide, by rw [hRm]; decide⟩ (Nat.le_of_ble_eq_true rfl) rfl (fun v h_3 gp3 => ?_) (fun E h9 hx => hx.elim)
            obtain ⟨rfl, he_gp3⟩ := gp3
            rw [he_gp3]
            show V G F _ _ _ 55 [some (.ref (B 0)), some (.int (nI p)), some (.int (gRk σ (nI p) t + wit (gM σ t) (gW σ t) (nI p) l)), some (.int (nI t)), some (.int (nI l))] [.int (gM σ t l), .int (gRk σ (nI p) t + wit (gM σ t) (gW σ t) (nI p) l)] h
            refine V.run hF [(.goto 4, 3, .null), (.iadd, 1, .null), (.istore_n 2, 1, .null), (.iinc 4 1, 3, .int 1), (.goto (-41), 3, .null)] (pc' := 23) (L' := [some (.ref (B 0)), some (.int (nI p)), some (.int ((gRk σ (nI p) t + wit (gM σ t) (gW σ t) (nI p) l) + gM σ t l)), some (.int (nI t)), some (.int ((nI l) + 1))]) (st' := []) (by decide +kernel) rfl ?_
            rw [nI_1 l]
            have := ih2 c2
            rw [← nx (gM σ t l) (by rw [if_pos c3])] at this
            exact this
      refine V.run hF [(.iconst 0, 1, .int (nI 0)), (.istore 4, 2, .null)] (pc' := 23) (L' := [some (.ref (B 0)), some (.int (nI p)), some (.int (gRk σ (nI p) t)), some (.int (nI t)), some (.int (nI 0))]) (st' := []) (by decide +kernel) rfl ?_
      have := inner 0 (Nat.zero_le _)
      rw [wit, Int32.add_zero] at this
      exact this
  refine V.run hF [(.iconst 0, 1, .int 0), (.istore_n 2, 1, .null), (.iconst 0, 1, .int (nI 0)), (.istore_n 3, 1, .null)] (pc' := 4) (L' := [some (.ref (B 0)), some (.int (nI p)), some (.int 0), some (.int (nI 0)), none]) (st' := []) (by decide +kernel) rfl ?_
  exact loop 0 (Nat.zero_le _) none
set_option maxHeartbeats 4000000 in
theorem c_X4_risk0 (hG : GOk G) (hM : MO h B σ x u md hs) (hR : RM σ u) {p : Nat} (hp : p < 8) (hth : gth σ p = 0) : Ct G yX4_risk (.code yX4_risk cX4_risk 5 (some .int)) 2 44 0 0 [.ref (B 0), .int (nI p)] h (is_i 0 h) pxN := by
  refine Ct.of (by decide +kernel) (Nat.le_of_ble_eq_true rfl) fun F hF hT hN hRm => ?_
  have h8 := hR.1
  refine V.run hF [(.iconst 0, 1, .int 0), (.istore_n 2, 1, .null), (.iconst 0, 1, .int (nI 0)), (.istore_n 3, 1, .null), (.iload_n 3, 1, .null), (.aload_n 0, 1, .null)] (pc' := 6) (L' := [some (.ref (B 0)), some (.int (nI p)), some (.int 0), some (.int (nI 0)), none]) (st' := [.ref (B 0), .int (nI 0)]) (by decide +kernel) rfl ?_
  refine V.getf hG hF k_RX4_43 (by decide +kernel) hM.2.1 rfl ?_
  refine V.icmpN_ge (i := 0) (j := gT σ) hF (off := 64) (tgt := 73) (by decide +kernel) (by decide) (by omega) (by omega) (fun c1 => ?_) (fun c1 => ?_)
  · skip
    refine V.run hF [(.iload_n 2, 1, .null)] (pc' := 74) (L' := [some (.ref (B 0)), some (.int (nI p)), some (.int 0), some (.int (nI 0)), none]) (st' := [.int 0]) (by decide +kernel) rfl ?_
    exact V.reti hF (by decide +kernel) ⟨rfl, rfl⟩
  · skip
    refine V.run hF [(.aload_n 0, 1, .null), (.iload_n 1, 1, .null)] (pc' := 14) (L' := [some (.ref (B 0)), some (.int (nI p)), some (.int 0), some (.int (nI 0)), none]) (st' := [.int (nI p), .ref (B 0)]) (by decide +kernel) rfl ?_
    refine V.callV (As := [.int (nI p)]) (st := []) hG hF k_RX4_64 (by decide +kernel) (c_X4_is hG hM hR hp) hM.2.1 rfl rfl ⟨by rw [hRm]; decide, by rw [hRm]; decide⟩ (Nat.le_of_ble_eq_true rfl) rfl (fun v h_1 gp1 => ?_) (fun E h9 hx => hx.elim)
    obtain ⟨rfl, he_gp1⟩ := gp1
    rw [he_gp1]
    show V G F _ _ _ 17 [some (.ref (B 0)), some (.int (nI p)), some (.int 0), some (.int (nI 0)), none] [.int (gth σ p)] h
    refine V.if_eq hF (off := 56) (tgt := 73) (by decide +kernel) (by decide) (fun c2 => ?_) (fun c2 => ?_)
    · skip
      refine V.run hF [(.iload_n 2, 1, .null)] (pc' := 74) (L' := [some (.ref (B 0)), some (.int (nI p)), some (.int 0), some (.int (nI 0)), none]) (st' := [.int 0]) (by decide +kernel) rfl ?_
      exact V.reti hF (by decide +kernel) ⟨rfl, rfl⟩
    · skip
      exact absurd hth c2
theorem c_X4_risk (hG : GOk G) (hM : MO h B σ x u md hs) (hR : RM σ u) {p : Nat} (hp : p < 8) : Ct G yX4_risk (.code yX4_risk cX4_risk 5 (some .int)) 2 44 0 0 [.ref (B 0), .int (nI p)] h (is_i (if gth σ p = 0 then 0 else gRk σ (nI p) (gT σ)) h) pxN := by
  by_cases q : gth σ p = 0
  · rw [if_pos q]
    exact c_X4_risk0 hG hM hR hp q
  · rw [if_neg q]
    exact c_X4_risk1 hG hM hR hp q
set_option maxHeartbeats 4000000 in
theorem c_X4_until (hG : GOk G) (hM : MO h B σ x u md hs) (hR : RM σ u) (hy : gy σ < 2 ^ 30) {t : Nat} (ht : t < gT σ) : Ct G yX4_until (.code yX4_until cX4_until 3 (some .int)) 1 22 0 0 [.ref (B 0), .int (nI t)] h (is_i (ytm σ t 10 0) h) pxN := by
  refine Ct.of (by decide +kernel) (Nat.le_of_ble_eq_true rfl) fun F hF hT hN hRm => ?_
  have loop : ∀ k, k ≤ 10 → V G F (fin G F (is_i (ytm σ t (10 - k) k) h) pxN) 0 0 2 [some (.ref (B 0)), some (.int (nI t)), some (.int (nI (k + 1)))] [] h := by
    refine lp_up 10 fun k hk ih => ?_
    refine V.run hF [(.iload_n 2, 1, .null), (.bipush 10, 2, .int (nI 10))] (pc' := 5) (L' := [some (.ref (B 0)), some (.int (nI t)), some (.int (nI (k + 1)))]) (st' := [.int (nI 10), .int (nI (k + 1))]) (by decide +kernel) rfl ?_
    refine V.icmpN_gt (i := k + 1) (j := 10) hF (off := 27) (tgt := 32) (by decide +kernel) (by decide) (by omega) (by omega) (fun c1 => ?_) (fun c1 => ?_)
    · have ek : 10 - k = 0 := by omega
      refine V.run hF [(.iconst (-1), 1, .int (-1))] (pc' := 33) (L' := [some (.ref (B 0)), some (.int (nI t)), some (.int (nI (k + 1)))]) (st' := [.int (-1)]) (by decide +kernel) rfl ?_
      exact V.reti hF (by decide +kernel) ⟨by rw [ek]; rfl, rfl⟩
    · skip
      have e8 : 10 - k = (10 - (k + 1)) + 1 := by omega
      refine V.run hF [(.aload_n 0, 1, .null), (.iload_n 1, 1, .null), (.aload_n 0, 1, .null)] (pc' := 11) (L' := [some (.ref (B 0)), some (.int (nI t)), some (.int (nI (k + 1)))]) (st' := [.ref (B 0), .int (nI t), .ref (B 0)]) (by decide +kernel) rfl ?_
      refine V.getf hG hF k_RX4_110 (by decide +kernel) hM.2.1 rfl ?_
      refine V.run hF [(.iload_n 2, 1, .null), (.iadd, 1, .null), (.iconst 1, 1, .int 1), (.isub, 1, .null)] (pc' := 18) (L' := [some (.ref (B 0)), some (.int (nI t)), some (.int (nI (k + 1)))]) (st' := [.int ((nI (gy σ) + nI (k + 1)) - 1), .int (nI t), .ref (B 0)]) (by decide +kernel) rfl ?_
      rw [nI_add, show gy σ + (k + 1) = (gy σ + k) + 1 by omega, nI_pred]
      refine V.callV (As := [.int (nI t), .int (nI (gy σ + k))]) (st := []) hG hF k_RX4_113 (by decide +kernel) (c_X4_melts hG hM hR ht (by omega)) hM.2.1 rfl rfl ⟨by rw [hRm]; decide, by rw [hRm]; decide⟩ (Nat.le_of_ble_eq_true rfl) rfl (fun v h_1 gp1 => ?_) (fun E h9 hx => hx.elim)
      obtain ⟨rfl, he_gp1⟩ := gp1
      rw [he_gp1]
      show V G F _ _ _ 21 [some (.ref (B 0)), some (.int (nI t)), some (.int (nI (k + 1)))] [.int (tf (gce σ t = 0 ∧ gha σ t < ghe σ ((gy σ + k) % 10)))] h
      refine V.if_eq hF (off := 5) (tgt := 26) (by decide +kernel) (by decide) (fun c2 => ?_) (fun c2 => ?_)
      · have q := tf_0 c2
        refine V.run hF [(.iinc 2 1, 3, .int 1), (.goto (-27), 3, .null)] (pc' := 2) (L' := [some (.ref (B 0)), some (.int (nI t)), some (.int ((nI (k + 1)) + 1))]) (st' := []) (by decide +kernel) rfl ?_
        rw [nI_1 (k + 1)]
        rw [e8, ytm, if_neg q]
        exact ih (by omega)
      · skip
        have q := tf_1 c2
        refine V.run hF [(.iload_n 2, 1, .null)] (pc' := 25) (L' := [some (.ref (B 0)), some (.int (nI t)), some (.int (nI (k + 1)))]) (st' := [.int (nI (k + 1))]) (by decide +kernel) rfl ?_
        exact V.reti hF (by decide +kernel) ⟨by rw [e8, ytm, if_pos q], rfl⟩
  refine V.run hF [(.iconst 1, 1, .int (nI 1)), (.istore_n 2, 1, .null)] (pc' := 2) (L' := [some (.ref (B 0)), some (.int (nI t)), some (.int (nI 1))]) (st' := []) (by decide +kernel) rfl ?_
  exact loop 0 (Nat.zero_le _)
set_option maxHeartbeats 4000000 in
theorem c_X4_meltIn (hG : GOk G) (hM : MO h B σ x u md hs) (hR : RM σ u) (hy : gy σ < 2 ^ 30) (y : Int32) : Ct G yX4_meltIn (.code yX4_meltIn cX4_meltIn 5 (some .int)) 2 46 0 0 [.ref (B 0), .int y] h (is_i (gMI σ y (gT σ)) h) pxN := by
  refine Ct.of (by decide +kernel) (Nat.le_of_ble_eq_true rfl) fun F hF hT hN hRm => ?_
  have h8 := hR.1
  have loop : ∀ t, t ≤ gT σ → ∀ z, V G F (fin G F (is_i (gMI σ y (gT σ)) h) pxN) 0 0 4 [some (.ref (B 0)), some (.int y), some (.int (gMI σ y t)), some (.int (nI t)), z] [] h := by
    refine lp_up (gT σ) fun t ht ih => ?_
    intro z
    refine V.loc (L' := [some (.ref (B 0)), some (.int y), some (.int (gMI σ y t)), some (.int (nI t)), none]) (fun j v hv => by
      match j, hv with
      | 0, hv => exact hv
      | 1, hv => exact hv
      | 2, hv => exact hv
      | 3, hv => exact hv
      | 4, hv => cases hv
      | q + 5, hv => cases hv) ?_
    refine V.run hF [(.iload_n 3, 1, .null), (.aload_n 0, 1, .null)] (pc' := 6) (L' := [some (.ref (B 0)), some (.int y), some (.int (gMI σ y t)), some (.int (nI t)), none]) (st' := [.ref (B 0), .int (nI t)]) (by decide +kernel) rfl ?_
    refine V.getf hG hF k_RX4_43 (by decide +kernel) hM.2.1 rfl ?_
    refine V.icmpN_ge (i := t) (j := gT σ) hF (off := 61) (tgt := 70) (by decide +kernel) (by decide) (by omega) (by omega) (fun c1 => ?_) (fun c1 => ?_)
    · have e : t = gT σ := by omega
      refine V.run hF [(.iload_n 2, 1, .null)] (pc' := 71) (L' := [some (.ref (B 0)), some (.int y), some (.int (gMI σ y t)), some (.int (nI t)), none]) (st' := [.int (gMI σ y t)]) (by decide +kernel) rfl ?_
      exact V.reti hF (by decide +kernel) ⟨by rw [e], rfl⟩
    · skip
      have c1 : t < gT σ := by omega
      obtain ⟨e1, e2, e3⟩ := hR.mn c1
      refine V.run hF [(.aload_n 0, 1, .null), (.iload_n 3, 1, .null)] (pc' := 14) (L' := [some (.ref (B 0)), some (.int y), some (.int (gMI σ y t)), some (.int (nI t)), none]) (st' := [.int (nI t), .ref (B 0)]) (by decide +kernel) rfl ?_
      refine V.callV (As := [.int (nI t)]) (st := []) hG hF k_RX4_154 (by decide +kernel) (c_X4_until hG hM hR hy c1) hM.2.1 rfl rfl ⟨by rw [hRm]; decide, by rw [hRm]; decide⟩ (Nat.le_of_ble_eq_true rfl) rfl (fun v h_1 gp1 => ?_) (fun E h9 hx => hx.elim)
      obtain ⟨rfl, he_gp1⟩ := gp1
      rw [he_gp1]
      show V G F _ _ _ 17 [some (.ref (B 0)), some (.int y), some (.int (gMI σ y t)), some (.int (nI t)), none] [.int (ytm σ t 10 0)] h
      refine V.run hF [(.iconst (-1), 1, .int (-1))] (pc' := 18) (L' := [some (.ref (B 0)), some (.int y), some (.int (gMI σ y t)), some (.int (nI t)), none]) (st' := [.int (-1), .int (ytm σ t 10 0)]) (by decide +kernel) rfl ?_
      refine V.icmp_eq hF (off := 46) (tgt := 64) (by decide +kernel) (by decide) (fun c3 => ?_) (fun c3 => ?_)
      · skip
        refine V.run hF [(.iinc 3 1, 3, .int 1), (.goto (-63), 3, .null)] (pc' := 4) (L' := [some (.ref (B 0)), some (.int y), some (.int (gMI σ y t)), some (.int ((nI t) + 1)), none]) (st' := []) (by decide +kernel) rfl ?_
        rw [nI_1 t]
        have := ih c1 none
        rw [show gMI σ y (t + 1) = gMI σ y t by rw [gMI, sumT, gMl, if_pos c3, Int32.add_zero]] at this
        exact this
      refine V.run hF [(.aload_n 0, 1, .null), (.iload_n 3, 1, .null)] (pc' := 23) (L' := [some (.ref (B 0)), some (.int y), some (.int (gMI σ y t)), some (.int (nI t)), none]) (st' := [.int (nI t), .ref (B 0)]) (by decide +kernel) rfl ?_
      refine V.callV (As := [.int (nI t)]) (st := []) hG hF k_RX4_154 (by decide +kernel) (c_X4_until hG hM hR hy c1) hM.2.1 rfl rfl ⟨by rw [hRm]; decide, by rw [hRm]; decide⟩ (Nat.le_of_ble_eq_true rfl) rfl (fun v h_2 gp2 => ?_) (fun E h9 hx => hx.elim)
      obtain ⟨rfl, he_gp2⟩ := gp2
      rw [he_gp2]
      show V G F _ _ _ 26 [some (.ref (B 0)), some (.int y), some (.int (gMI σ y t)), some (.int (nI t)), none] [.int (ytm σ t 10 0)] h
      refine V.run hF [(.iload_n 1, 1, .null)] (pc' := 27) (L' := [some (.ref (B 0)), some (.int y), some (.int (gMI σ y t)), some (.int (nI t)), none]) (st' := [.int y, .int (ytm σ t 10 0)]) (by decide +kernel) rfl ?_
      refine V.icmp_le hF (off := 6) (tgt := 33) (by decide +kernel) (by decide) (fun c4 => ?_) (fun c4 => ?_)
      rotate_left
      · skip
        refine V.run hF [(.goto 34, 3, .null), (.iinc 3 1, 3, .int 1), (.goto (-63), 3, .null)] (pc' := 4) (L' := [some (.ref (B 0)), some (.int y), some (.int (gMI σ y t)), some (.int ((nI t) + 1)), none]) (st' := []) (by decide +kernel) rfl ?_
        rw [nI_1 t]
        have := ih c1 none
        rw [show gMI σ y (t + 1) = gMI σ y t by rw [gMI, sumT, gMl, if_neg c3, if_pos (Int32.not_le.mp c4), Int32.add_zero]] at this
        exact this
      have eq1 : gMI σ y (t + 1) = gMI σ y t + sm (gM σ t) (gn σ t) := by
        rw [gMI, sumT, gMl, if_neg c3, if_neg (Int32.not_lt.mpr c4)]
      have inner : ∀ l, l ≤ gn σ t → V G F (fin G F (is_i (gMI σ y (gT σ)) h) pxN) 0 0 36 [some (.ref (B 0)), some (.int y), some (.int (gMI σ y t + sm (gM σ t) l)), some (.int (nI t)), some (.int (nI l))] [] h := by
        refine lp_up (gn σ t) fun l hl ih2 => ?_
        refine V.run hF [(.iload 4, 2, .null), (.aload_n 0, 1, .null)] (pc' := 39) (L' := [some (.ref (B 0)), some (.int y), some (.int (gMI σ y t + sm (gM σ t) l)), some (.int (nI t)), some (.int (nI l))]) (st' := [.ref (B 0), .int (nI l)]) (by decide +kernel) rfl ?_
        refine V.getf hG hF k_RX4_21 (by decide +kernel) hM.2.1 rfl ?_
        refine V.run hF [(.iload_n 3, 1, .null)] (pc' := 43) (L' := [some (.ref (B 0)), some (.int y), some (.int (gMI σ y t + sm (gM σ t) l)), some (.int (nI t)), some (.int (nI l))]) (st' := [.int (nI t), .ref (B 3), .int (nI l)]) (by decide +kernel) rfl ?_
        refine V.ialdN (j := t) hG hF (by decide +kernel) hM.2.2.2.2.1 (by omega) (by decide) ?_
        rw [e2]
        refine V.icmpN_ge (i := l) (j := gn σ t) hF (off := 20) (tgt := 64) (by decide +kernel) (by decide) (by omega) (by omega) (fun c2 => ?_) (fun c2 => ?_)
        · have e : l = gn σ t := by omega
          rw [e]
          refine V.run hF [(.iinc 3 1, 3, .int 1), (.goto (-63), 3, .null)] (pc' := 4) (L' := [some (.ref (B 0)), some (.int y), some (.int (gMI σ y t + sm (gM σ t) (gn σ t))), some (.int ((nI t) + 1)), some (.int (nI (gn σ t)))]) (st' := []) (by decide +kernel) rfl ?_
          rw [nI_1 t]
          have := ih c1 none
          rw [show gMI σ y (t + 1) = gMI σ y t + sm (gM σ t) (gn σ t) from eq1] at this
          exact V.loc (fun j v hv => by
            match j, hv with
            | 0, hv => exact hv
            | 1, hv => exact hv
            | 2, hv => exact hv
            | 3, hv => exact hv
            | 4, hv => cases hv
            | q + 5, hv => cases hv) this
        · skip
          have c2 : l < gn σ t := by omega
          refine V.run hF [(.iload_n 2, 1, .null), (.aload_n 0, 1, .null), (.iload_n 3, 1, .null), (.iload 4, 2, .null), (.iconst 2, 1, .int 2)] (pc' := 53) (L' := [some (.ref (B 0)), some (.int y), some (.int (gMI σ y t + sm (gM σ t) l)), some (.int (nI t)), some (.int (nI l))]) (st' := [.int 2, .int (nI l), .int (nI t), .ref (B 0), .int (gMI σ y t + sm (gM σ t) l)]) (by decide +kernel) rfl ?_
          refine V.callV (As := [.int (nI t), .int (nI l), .int 2]) (st := [.int (gMI σ y t + sm (gM σ t) l)]) hG hF k_RX4_60 (by decide +kernel) (c_X4_ofM hG hM hR c1 c2) hM.2.1 rfl rfl ⟨by rw [hRm]; decide, by rw [hRm]; decide⟩ (Nat.le_of_ble_eq_true rfl) rfl (fun v h_3 gp3 => ?_) (fun E h9 hx => hx.elim)
          obtain ⟨rfl, he_gp3⟩ := gp3
          rw [he_gp3]
          show V G F _ _ _ 56 [some (.ref (B 0)), some (.int y), some (.int (gMI σ y t + sm (gM σ t) l)), some (.int (nI t)), some (.int (nI l))] [.int (gM σ t l), .int (gMI σ y t + sm (gM σ t) l)] h
          refine V.run hF [(.iadd, 1, .null), (.istore_n 2, 1, .null), (.iinc 4 1, 3, .int 1), (.goto (-25), 3, .null)] (pc' := 36) (L' := [some (.ref (B 0)), some (.int y), some (.int ((gMI σ y t + sm (gM σ t) l) + gM σ t l)), some (.int (nI t)), some (.int ((nI l) + 1))]) (st' := []) (by decide +kernel) rfl ?_
          rw [nI_1 l]
          have := ih2 c2
          rw [sm, ← Int32.add_assoc] at this
          exact this
      refine V.run hF [(.iconst 0, 1, .int (nI 0)), (.istore 4, 2, .null)] (pc' := 36) (L' := [some (.ref (B 0)), some (.int y), some (.int (gMI σ y t)), some (.int (nI t)), some (.int (nI 0))]) (st' := []) (by decide +kernel) rfl ?_
      have := inner 0 (Nat.zero_le _)
      rw [sm, Int32.add_zero] at this
      exact this
  refine V.run hF [(.iconst 0, 1, .int 0), (.istore_n 2, 1, .null), (.iconst 0, 1, .int (nI 0)), (.istore_n 3, 1, .null)] (pc' := 4) (L' := [some (.ref (B 0)), some (.int y), some (.int 0), some (.int (nI 0)), none]) (st' := []) (by decide +kernel) rfl ?_
  exact loop 0 (Nat.zero_le _) none
theorem pmax_cg {f g : Nat → Int32} : ∀ k, (∀ p, p ≤ k → f p = g p) → pmax f k = pmax g k
  | 0, _ => rfl
  | k + 1, e => by
    have ih := pmax_cg k (fun p hp => e p (by omega))
    have := pmax_le g k
    rw [pmax, pmax, ih, e (k + 1) (by omega), e (pmax g k) (by omega)]
set_option maxHeartbeats 4000000 in
theorem c_X4_balances (hG : GOk G) (hM : MO h B σ x u md hs) (hR : RM σ u) : Ct G yX4_balances (.code yX4_balances cX4_balances 2 none) 3 66 0 0 [.ref (B 0)] h (is_v fun h' => ∃ g, (∀ p, p < 8 → g p = balT σ (nI p) (gT σ)) ∧ MO h' B σ x u md g ∧ kpB h h' B) pxN := by
  refine Ct.of (by decide +kernel) (Nat.le_of_ble_eq_true rfl) fun F hF hT hN hRm => ?_
  have h8 := hR.1
  have loop : ∀ t, t ≤ gT σ → ∀ (h1 : Hp) (g : Nat → Int32), (∀ p, p < 8 → g p = balT σ (nI p) t) → MO h1 B σ x u md g → kpB h h1 B → V G F (fin G F (is_v fun h' => ∃ g, (∀ p, p < 8 → g p = balT σ (nI p) (gT σ)) ∧ MO h' B σ x u md g ∧ kpB h h' B) pxN) 0 0 6 [some (.ref (B 0)), some (.int (nI t))] [] h1 := by
    refine lp_up (gT σ) fun t ht ih => ?_
    intro h1 g hg hM1 hk1
    refine V.run hF [(.iload_n 1, 1, .null), (.aload_n 0, 1, .null)] (pc' := 8) (L' := [some (.ref (B 0)), some (.int (nI t))]) (st' := [.ref (B 0), .int (nI t)]) (by decide +kernel) rfl ?_
    refine V.getf hG hF k_RX4_43 (by decide +kernel) hM1.2.1 rfl ?_
    refine V.icmpN_ge (i := t) (j := gT σ) hF (off := 14) (tgt := 25) (by decide +kernel) (by decide) (by omega) (by omega) (fun c1 => ?_) (fun c1 => ?_)
    · have e : t = gT σ := by omega
      rw [e] at hg
      exact V.retv hF (by decide +kernel) ⟨rfl, g, hg, hM1, hk1⟩
    · skip
      have c1 : t < gT σ := by omega
      refine V.run hF [(.aload_n 0, 1, .null), (.iload_n 1, 1, .null)] (pc' := 16) (L' := [some (.ref (B 0)), some (.int (nI t))]) (st' := [.int (nI t), .ref (B 0)]) (by decide +kernel) rfl ?_
      refine V.callV (As := [.int (nI t)]) (st := []) hG hF k_RX4_70 (by decide +kernel) (c_X4_balance hG hM1 hR c1) hM1.2.1 rfl rfl ⟨by rw [hRm]; decide, by rw [hRm]; decide⟩ (Nat.le_of_ble_eq_true rfl) rfl (fun v2 h2 hp => ?_) (fun E h9 hx => hx.elim)
      obtain ⟨hv, g2, hg2, hM2, hk2⟩ := hp
      rw [hv]
      show V G F _ _ _ 19 [some (.ref (B 0)), some (.int (nI t))] [] h2
      refine V.run hF [(.iinc 1 1, 3, .int 1), (.goto (-16), 3, .null)] (pc' := 6) (L' := [some (.ref (B 0)), some (.int ((nI t) + 1))]) (st' := []) (by decide +kernel) rfl ?_
      rw [nI_1 t]
      exact ih c1 h2 g2 (fun p hp => by rw [hg2 p hp, hg p hp]; rfl) hM2 (hk1.tr hk2)
  refine V.run hF [(.aload_n 0, 1, .null)] (pc' := 1) (L' := [some (.ref (B 0)), none]) (st' := [.ref (B 0)]) (by decide +kernel) rfl ?_
  refine V.callV (As := []) (st := []) hG hF k_RX4_67 (by decide +kernel) (c_X4_clear hG hM) hM.2.1 rfl rfl ⟨by rw [hRm]; decide, by rw [hRm]; decide⟩ (Nat.le_of_ble_eq_true rfl) rfl (fun v2 h2 hp => ?_) (fun E h9 hx => hx.elim)
  obtain ⟨hv, hM2, hk2⟩ := hp
  rw [hv]
  show V G F _ _ _ 4 [some (.ref (B 0)), none] [] h2
  refine V.run hF [(.iconst 0, 1, .int (nI 0)), (.istore_n 1, 1, .null)] (pc' := 6) (L' := [some (.ref (B 0)), some (.int (nI 0))]) (st' := []) (by decide +kernel) rfl ?_
  exact loop 0 (Nat.zero_le _) h2 _ (fun p hp => if_pos hp) hM2 hk2
set_option maxHeartbeats 4000000 in
theorem c_X4_most (hG : GOk G) (hM : MO h B σ x u md hs) (hR : RM σ u) : Ct G yX4_most (.code yX4_most cX4_most 1 (some .int)) 4 87 0 0 [.ref (B 0)] h (fun v h' => v = some (.int (rch σ)) ∧ ∃ g, MO h' B σ x u md g ∧ kpB h h' B) pxN := by
  refine Ct.of (by decide +kernel) (Nat.le_of_ble_eq_true rfl) fun F hF hT hN hRm => ?_
  refine V.run hF [(.aload_n 0, 1, .null)] (pc' := 1) (L' := [some (.ref (B 0))]) (st' := [.ref (B 0)]) (by decide +kernel) rfl ?_
  refine V.callV (As := []) (st := []) hG hF k_RX4_126 (by decide +kernel) (c_X4_balances hG hM hR) hM.2.1 rfl rfl ⟨by rw [hRm]; decide, by rw [hRm]; decide⟩ (Nat.le_of_ble_eq_true rfl) rfl (fun v2 h2 hp => ?_) (fun E h9 hx => hx.elim)
  obtain ⟨hv, g, hg, hM2, hk2⟩ := hp
  rw [hv]
  show V G F _ _ _ 4 [some (.ref (B 0))] [] h2
  refine V.run hF [(.aload_n 0, 1, .null), (.iconst 1, 1, .int 1)] (pc' := 6) (L' := [some (.ref (B 0))]) (st' := [.int 1, .ref (B 0)]) (by decide +kernel) rfl ?_
  refine V.callV (As := [.int 1]) (st := []) hG hF k_RX4_74 (by decide +kernel) (c_X4_exMax hG hM2) hM2.2.1 rfl rfl ⟨by rw [hRm]; decide, by rw [hRm]; decide⟩ (Nat.le_of_ble_eq_true rfl) rfl (fun v h_2 gp2 => ?_) (fun E h9 hx => hx.elim)
  obtain ⟨rfl, he_gp2⟩ := gp2
  rw [he_gp2]
  show V G F _ _ _ 9 [some (.ref (B 0))] [.int (nI (pmax g 7))] h2
  have e : pmax g 7 = pmax (fun p => balT σ (nI p) (gT σ)) 7 := pmax_cg 7 (fun p hp => hg p (by omega))
  exact V.reti hF (by decide +kernel) ⟨by rw [e], g, hM2, hk2⟩
end Mq