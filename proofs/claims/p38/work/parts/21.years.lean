/-! ===== TallyWax: years go by ===== -/
abbrev mlt (σ : Sg) (t : Nat) : Prop := gce σ t = 0 ∧ gha σ t < heatAt σ 0
def sMelt (σ : Sg) (i : Nat) : Sg := (gth σ, gT σ, gha σ, gce σ, fun t => if t < i ∧ mlt σ t then 0 else gn σ t, (gDD σ, gC σ, gM σ, gW σ), ghe σ, gy σ, gme σ, gde σ)
abbrev gon (σ : Sg) : Nat → Int32 := sumT (fun t => if mlt σ t then nI (gn σ t) else 0)
def yrS (σ : Sg) : Sg := sYmd (sMelt σ (gT σ)) (gy σ + 1) (gme σ) (gde σ)
def yrN : Nat → Sg → Sg
  | 0, σ => σ
  | k + 1, σ => yrS (yrN k σ)
def goN : Nat → Sg → Int32
  | 0, _ => 0
  | k + 1, σ => goN k σ + gon (yrN k σ) (gT σ)
theorem yrN_T : ∀ (k : Nat) (σ : Sg), gT (yrN k σ) = gT σ
  | 0, _ => rfl
  | k + 1, σ => (show gT (yrN (k + 1) σ) = gT (yrN k σ) from rfl).trans (yrN_T k σ)
theorem yrN_y : ∀ (k : Nat) (σ : Sg), gy (yrN k σ) = gy σ + k
  | 0, _ => rfl
  | k + 1, σ => (show gy (yrN (k + 1) σ) = gy (yrN k σ) + 1 from rfl).trans (by rw [yrN_y k σ]; omega)
theorem yrN_me : ∀ (k : Nat) (σ : Sg), gme (yrN k σ) = gme σ
  | 0, _ => rfl
  | k + 1, σ => (show gme (yrN (k + 1) σ) = gme (yrN k σ) from rfl).trans (yrN_me k σ)
theorem yrN_de : ∀ (k : Nat) (σ : Sg), gde (yrN k σ) = gde σ
  | 0, _ => rfl
  | k + 1, σ => (show gde (yrN (k + 1) σ) = gde (yrN k σ) from rfl).trans (yrN_de k σ)
theorem sMelt_0 {σ : Sg} : sMelt σ 0 = σ := by
  unfold sMelt
  have : (fun t => if t < 0 ∧ mlt σ t then 0 else gn σ t) = gn σ := by
    funext t
    rw [if_neg (fun q => Nat.not_lt_zero _ q.1)]
  rw [this]
theorem sMelt_n {σ : Sg} {i : Nat} (h : ¬ mlt σ i) : sMelt σ (i + 1) = sMelt σ i := by
  unfold sMelt
  have : (fun t => if t < i + 1 ∧ mlt σ t then 0 else gn σ t) = fun t => if t < i ∧ mlt σ t then 0 else gn σ t := by
    funext t
    by_cases e : t = i
    · subst e
      rw [if_neg (fun q => h q.2), if_neg (fun q => h q.2)]
    · by_cases q : t < i ∧ mlt σ t
      · rw [if_pos q, if_pos ⟨by omega, q.2⟩]
      · rw [if_neg q, if_neg (fun z => q ⟨by omega, z.2⟩)]
  rw [this]
theorem sMelt_y {σ : Sg} {i : Nat} (h : mlt σ i) : sTab (sMelt σ i) i (gha σ i) (gce σ i) 0 (gDD σ i) (gC σ i) (gM σ i) (gW σ i) = sMelt σ (i + 1) := by
  unfold sTab sMelt
  simp only [gth, gT, gha, gce, gn, gDD, gC, gM, gW, ghe, gy, gme, gde, vu_i]
  have : va_up (fun t => if t < i ∧ mlt σ t then 0 else σ.2.2.2.2.1 t) i 0 = fun t => if t < i + 1 ∧ mlt σ t then 0 else σ.2.2.2.2.1 t := by
    funext t
    by_cases e : t = i
    · subst e
      rw [vu_s, if_pos ⟨by omega, h⟩]
    · rw [vu_n e]
      by_cases q : t < i ∧ mlt σ t
      · rw [if_pos q, if_pos ⟨by omega, q.2⟩]
      · rw [if_neg q, if_neg (fun z => q ⟨by omega, z.2⟩)]
  rw [this]
section Ye
variable {G : Gt} {h : Hp} {A : Nat → Nat} {σ : Sg} {P : PS} {r : Nat → Int32}
set_option maxHeartbeats 4000000 in
theorem c_X3_passOneYear (hG : GOk G) (hC : CS h A σ P r) (hy : gy σ < 2 ^ 30) : Ct G yX3_passOneYear (.code yX3_passOneYear cX3_passOneYear 7 (some .int)) 2 43 0 0 [.ref (A 0)] h (fun v h' => v = some (.int (gon σ (gT σ))) ∧ CS h' A (yrS σ) P r ∧ kpC h h' A (12 + 6 * gT σ)) pxN := by
  refine Ct.of (by decide +kernel) (Nat.le_of_ble_eq_true rfl) fun F hF hT hN hRm => ?_
  have hT8 := hC.2.1
  obtain ⟨ht, hht⟩ : ∃ x : Int32, x = heatAt σ 0 := ⟨_, rfl⟩
  have loop : ∀ i, i ≤ 8 → ∀ h1 : Hp, CS h1 A (sMelt σ (min i (gT σ))) P r → kpC h h1 A (12 + 6 * gT σ) → V G F (fin G F (fun v h' => v = some (.int (gon σ (gT σ))) ∧ CS h' A (yrS σ) P r ∧ kpC h h' A (12 + 6 * gT σ)) pxN) 0 0 20 [some (.ref (A 0)), some (.int ht), some (.int (gon σ (min i (gT σ)))), some (.ref (A 2)), some (.int (nI 8)), some (.int (nI i)), none] [] h1 := by
    refine lp_up 8 fun i hi ih => ?_
    intro h1 hC1 hk1
    obtain ⟨hI, _, gA, g1, g2, g3, g4, g5, g6⟩ := id hC1
    have dr : ∀ {x : Int32} {u : Option Value} {h2 : Hp} {j : Int32}, V G F (fin G F (fun v h' => v = some (.int (gon σ (gT σ))) ∧ CS h' A (yrS σ) P r ∧ kpC h h' A (12 + 6 * gT σ)) pxN) 0 0 20 [some (.ref (A 0)), some (.int ht), some (.int x), some (.ref (A 2)), some (.int (nI 8)), some (.int j), none] [] h2 → V G F (fin G F (fun v h' => v = some (.int (gon σ (gT σ))) ∧ CS h' A (yrS σ) P r ∧ kpC h h' A (12 + 6 * gT σ)) pxN) 0 0 20 [some (.ref (A 0)), some (.int ht), some (.int x), some (.ref (A 2)), some (.int (nI 8)), some (.int j), u] [] h2 := fun k => V.loc (fun j v hv => by
      match j, hv with
      | 0, hv => exact hv
      | 1, hv => exact hv
      | 2, hv => exact hv
      | 3, hv => exact hv
      | 4, hv => exact hv
      | 5, hv => exact hv
      | 6, hv => cases hv
      | q + 7, hv => cases hv) k
    refine V.run hF [(.iload 5, 2, .null), (.iload 4, 2, .null)] (pc' := 24) (L' := [some (.ref (A 0)), some (.int ht), some (.int (gon σ (min i (gT σ)))), some (.ref (A 2)), some (.int (nI 8)), some (.int (nI i)), none]) (st' := [.int (nI 8), .int (nI i)]) (by decide +kernel) rfl ?_
    refine V.icmpN_ge (i := i) (j := 8) hF (off := 49) (tgt := 73) (by decide +kernel) (by decide) (by omega) (by omega) (fun c1 => ?_) (fun c1 => ?_)
    · have e : min i (gT σ) = gT σ := by omega
      rw [e] at hC1 ⊢
      refine V.run hF [(.aload_n 0, 1, .null), (.dup, 1, .null)] (pc' := 75) (L' := [some (.ref (A 0)), some (.int ht), some (.int (gon σ (gT σ))), some (.ref (A 2)), some (.int (nI 8)), some (.int (nI i)), none]) (st' := [.ref (A 0), .ref (A 0)]) (by decide +kernel) rfl ?_
      refine V.getf hG hF k_RX3_143 (by decide +kernel) gA rfl ?_
      refine V.run hF [(.iconst 1, 1, .int 1), (.iadd, 1, .null)] (pc' := 80) (L' := [some (.ref (A 0)), some (.int ht), some (.int (gon σ (gT σ))), some (.ref (A 2)), some (.int (nI 8)), some (.int (nI i)), none]) (st' := [.int (nI (gy σ) + 1), .ref (A 0)]) (by decide +kernel) rfl ?_
      rw [nI_1 (gy σ)]
      refine V.putf hG hF k_RX3_143 (by decide +kernel) gA (fun C T N hc => by cases hc; exact ⟨rfl, .int, by decide +kernel, rfl, rfl⟩) (Nat.le_of_ble_eq_true rfl) ?_
      obtain ⟨h_1, gh1⟩ : ∃ z : Hp, z = hset h1 (A 0) (.inr (3, [.ref (A 1), .ref (A 2), .ref (A 3), .ref (A 4), .ref (A 5), .int (nI (gT σ)), .int (nI (gy σ + 1)), .int (gme σ), .int (gde σ)])) := ⟨_, rfl⟩
      refine V.hp gh1 ?_
      have gk1 : ∀ q : Nat, q ≠ (A 0) → h_1 q = h1 q := fun q hq => by rw [gh1]; exact hset_ne hq
      have gs1 : h_1 (A 0) = some (.inr (3, [.ref (A 1), .ref (A 2), .ref (A 3), .ref (A 4), .ref (A 5), .int (nI (gT σ)), .int (nI (gy σ + 1)), .int (gme σ), .int (gde σ)])) := by rw [gh1]; exact hset_eq
      refine V.run hF [(.iload_n 2, 1, .null)] (pc' := 84) (L' := [some (.ref (A 0)), some (.int ht), some (.int (gon σ (gT σ))), some (.ref (A 2)), some (.int (nI 8)), some (.int (nI i)), none]) (st' := [.int (gon σ (gT σ))]) (by decide +kernel) rfl ?_
      have hC2 := hC1.ymd (y := gy σ + 1) (me := gme σ) (de := gde σ) gs1 (fun q hq => gk1 q hq)
      exact V.reti hF (by decide +kernel) ⟨rfl, hC2, hk1.tr (kpC.one (by omega) (fun q hq => gk1 q hq))⟩
    · skip
      refine V.run hF [(.aload_n 3, 1, .null), (.iload 5, 2, .null)] (pc' := 30) (L' := [some (.ref (A 0)), some (.int ht), some (.int (gon σ (min i (gT σ)))), some (.ref (A 2)), some (.int (nI 8)), some (.int (nI i)), none]) (st' := [.int (nI i), .ref (A 2)]) (by decide +kernel) rfl ?_
      by_cases ht' : i < gT σ
      · skip
        obtain ⟨e1, e2⟩ := min_s ht'
        rw [e2] at hC1
        obtain ⟨t1, t2, t3⟩ := hC1.2.2.2.2.2.2.2.2 i ht'
        have t1 : h1 (A (12 + 6 * i)) = some (.inr (2, [.int (gha σ i), .int (gce σ i), .ref (A (13 + 6 * i))])) := t1
        have en : gn (sMelt σ i) i = gn σ i := if_neg (fun q => Nat.lt_irrefl _ q.1)
        rw [en] at t2
        have t2 : LLc h1 (A (13 + 6 * i)) (A (14 + 6 * i)) (A (15 + 6 * i)) (A (16 + 6 * i)) (A (17 + 6 * i)) (gDD σ i) (gC σ i) (gM σ i) (gW σ i) (gn σ i) := t2
        refine V.aaldS (j := i) (b := (A (12 + 6 * i))) hG hF (by decide +kernel) g2 (by omega) (by decide) (shf_in ht') ?_
        refine V.run hF [(.astore 6, 2, .null), (.aload 6, 2, .null)] (pc' := 35) (L' := [some (.ref (A 0)), some (.int ht), some (.int (gon σ (min i (gT σ)))), some (.ref (A 2)), some (.int (nI 8)), some (.int (nI i)), some (.ref (A (12 + 6 * i)))]) (st' := [.ref (A (12 + 6 * i))]) (by decide +kernel) rfl ?_
        refine V.ifnull1 hF (off := 32) (by decide +kernel) ?_
        refine V.run hF [(.aload 6, 2, .null), (.iload_n 1, 1, .null)] (pc' := 41) (L' := [some (.ref (A 0)), some (.int ht), some (.int (gon σ (min i (gT σ)))), some (.ref (A 2)), some (.int (nI 8)), some (.int (nI i)), some (.ref (A (12 + 6 * i)))]) (st' := [.int ht, .ref (A (12 + 6 * i))]) (by decide +kernel) rfl ?_
        refine V.callVN (As := [.int ht]) (st := []) hG hF k_RX3_236 (by decide +kernel) (c_X2_meltsAt hG t1) t1 rfl rfl ⟨by rw [hRm]; decide, by rw [hRm]; decide⟩ (Nat.le_of_ble_eq_true rfl) rfl (fun v h_2 gp2 => ?_)
        obtain ⟨rfl, he_gp2⟩ := gp2
        rw [he_gp2]
        show V G F _ _ _ 44 [some (.ref (A 0)), some (.int ht), some (.int (gon σ (min i (gT σ)))), some (.ref (A 2)), some (.int (nI 8)), some (.int (nI i)), some (.ref (A (12 + 6 * i)))] [.int (tf (gce σ i = 0 ∧ gha σ i < ht))] h1
        have es : gon σ (i + 1) = gon σ i + (if mlt σ i then nI (gn σ i) else 0) := rfl
        refine V.if_eq hF (off := 23) (tgt := 67) (by decide +kernel) (by decide) (fun c2 => ?_) (fun c2 => ?_)
        · have q : ¬ mlt σ i := fun q => by
            rw [tf, if_pos (by rw [hht]; exact q)] at c2; cases c2
          refine V.run hF [(.iinc 5 1, 3, .int 1), (.goto (-50), 3, .null)] (pc' := 20) (L' := [some (.ref (A 0)), some (.int ht), some (.int (gon σ (min i (gT σ)))), some (.ref (A 2)), some (.int (nI 8)), some (.int ((nI i) + 1)), some (.ref (A (12 + 6 * i)))]) (st' := []) (by decide +kernel) rfl ?_
          rw [nI_1 i]
          rw [if_neg q, Int32.add_zero] at es
          have := ih c1 h1 (by rw [e1, e2, sMelt_n q]; exact hC1) hk1
          rw [e1, e2, es] at this
          rw [e2]
          exact dr this
        · skip
          have q : mlt σ i := by
            by_cases q : gce σ i = 0 ∧ gha σ i < ht
            · rw [hht] at q; exact q
            · rw [tf, if_neg q] at c2; exact absurd rfl c2
          refine V.run hF [(.iload_n 2, 1, .null), (.aload 6, 2, .null)] (pc' := 50) (L' := [some (.ref (A 0)), some (.int ht), some (.int (gon σ (min i (gT σ)))), some (.ref (A 2)), some (.int (nI 8)), some (.int (nI i)), some (.ref (A (12 + 6 * i)))]) (st' := [.ref (A (12 + 6 * i)), .int (gon σ (min i (gT σ)))]) (by decide +kernel) rfl ?_
          refine V.getf hG hF k_RX3_56 (by decide +kernel) t1 rfl ?_
          refine V.getf hG hF k_RX3_67 (by decide +kernel) t2.1 rfl ?_
          refine V.run hF [(.iadd, 1, .null), (.istore_n 2, 1, .null), (.aload 6, 2, .null)] (pc' := 60) (L' := [some (.ref (A 0)), some (.int ht), some (.int (gon σ (min i (gT σ)) + nI (gn σ i))), some (.ref (A 2)), some (.int (nI 8)), some (.int (nI i)), some (.ref (A (12 + 6 * i)))]) (st' := [.ref (A (12 + 6 * i))]) (by decide +kernel) rfl ?_
          refine V.getf hG hF k_RX3_56 (by decide +kernel) t1 rfl ?_
          refine V.run hF [(.iconst 0, 1, .int (nI 0))] (pc' := 64) (L' := [some (.ref (A 0)), some (.int ht), some (.int (gon σ (min i (gT σ)) + nI (gn σ i))), some (.ref (A 2)), some (.int (nI 8)), some (.int (nI i)), some (.ref (A (12 + 6 * i)))]) (st' := [.int (nI 0), .ref (A (13 + 6 * i))]) (by decide +kernel) rfl ?_
          refine V.putf hG hF k_RX3_67 (by decide +kernel) t2.1 (fun C T N hc => by cases hc; exact ⟨rfl, .int, by decide +kernel, rfl, rfl⟩) (Nat.le_of_ble_eq_true rfl) ?_
          obtain ⟨h_3, gh3⟩ : ∃ z : Hp, z = hset h1 (A (13 + 6 * i)) (.inr (0, [.ref (A (14 + 6 * i)), .ref (A (15 + 6 * i)), .ref (A (16 + 6 * i)), .ref (A (17 + 6 * i)), .int (nI 0)])) := ⟨_, rfl⟩
          refine V.hp gh3 ?_
          have gk3 : ∀ q : Nat, q ≠ (A (13 + 6 * i)) → h_3 q = h1 q := fun q hq => by rw [gh3]; exact hset_ne hq
          have gs3 : h_3 (A (13 + 6 * i)) = some (.inr (0, [.ref (A (14 + 6 * i)), .ref (A (15 + 6 * i)), .ref (A (16 + 6 * i)), .ref (A (17 + 6 * i)), .int (nI 0)])) := by rw [gh3]; exact hset_eq
          rw [if_pos q] at es
          have k13 : ∀ j, j < 12 + 6 * gT σ → j ≠ 13 + 6 * i → h_3 (A j) = h1 (A j) := fun j hj hn => gk3 _ (hC.1.ne hj (by omega) hn)
          have hC2 := hC1.tab (h' := h_3) ht' (ha := gha σ i) (ce := gce σ i) (n := 0) (D := gDD σ i) (C := gC σ i) (M := gM σ i) (W := gW σ i) ((k13 _ (by omega) (by omega)).trans t1) ⟨gs3, (k13 _ (by omega) (by omega)).trans t2.2.1, (k13 _ (by omega) (by omega)).trans t2.2.2.1, (k13 _ (by omega) (by omega)).trans t2.2.2.2.1, (k13 _ (by omega) (by omega)).trans t2.2.2.2.2⟩ (Nat.zero_le _) (fun q hq => gk3 q (hq _ (by omega) (by omega)))
          rw [sMelt_y q] at hC2
          have hk2 : kpC h h_3 A (12 + 6 * gT σ) := hk1.tr (kpC.one (i := 13 + 6 * i) (by omega) (fun q hq => gk3 q hq))
          refine V.run hF [(.iinc 5 1, 3, .int 1), (.goto (-50), 3, .null)] (pc' := 20) (L' := [some (.ref (A 0)), some (.int ht), some (.int (gon σ (min i (gT σ)) + nI (gn σ i))), some (.ref (A 2)), some (.int (nI 8)), some (.int ((nI i) + 1)), some (.ref (A (12 + 6 * i)))]) (st' := []) (by decide +kernel) rfl ?_
          rw [nI_1 i]
          have := ih c1 h_3 (by rw [e1, e2]; exact hC2) hk2
          rw [e1, e2, es] at this
          rw [e2]
          exact dr this
      · skip
        refine V.aaldZ (j := i) hG hF (by decide +kernel) g2 (by omega) (by decide) (shf_out ht') ?_
        refine V.run hF [(.astore 6, 2, .null), (.aload 6, 2, .null)] (pc' := 35) (L' := [some (.ref (A 0)), some (.int ht), some (.int (gon σ (min i (gT σ)))), some (.ref (A 2)), some (.int (nI 8)), some (.int (nI i)), some (.null)]) (st' := [.null]) (by decide +kernel) rfl ?_
        refine V.ifnull0 hF (off := 32) (tgt := 67) (by decide +kernel) (by decide) ?_
        refine V.run hF [(.iinc 5 1, 3, .int 1), (.goto (-50), 3, .null)] (pc' := 20) (L' := [some (.ref (A 0)), some (.int ht), some (.int (gon σ (min i (gT σ)))), some (.ref (A 2)), some (.int (nI 8)), some (.int ((nI i) + 1)), some (.null)]) (st' := []) (by decide +kernel) rfl ?_
        rw [nI_1 i]
        have := ih c1 h1 (by rw [min_e ht']; exact hC1) hk1
        rw [min_e ht'] at this
        exact dr this
  refine V.run hF [(.aload_n 0, 1, .null), (.iconst 0, 1, .int 0)] (pc' := 2) (L' := [some (.ref (A 0)), none, none, none, none, none, none]) (st' := [.int 0, .ref (A 0)]) (by decide +kernel) rfl ?_
  refine V.callV (As := [.int (nI 0)]) (st := []) hG hF k_RX3_233 (by decide +kernel) (c_X3_heatAfter hG hC (k := 0) (by omega)) hC.2.2.1 rfl rfl ⟨by rw [hRm]; decide, by rw [hRm]; decide⟩ (Nat.le_of_ble_eq_true rfl) rfl (fun v h_1 gp1 => ?_) (fun E h9 hx => hx.elim)
  obtain ⟨rfl, he_gp1⟩ := gp1
  rw [he_gp1]
  show V G F _ _ _ 5 [some (.ref (A 0)), none, none, none, none, none, none] [.int (heatAt σ 0)] h
  rw [← hht]
  refine V.run hF [(.istore_n 1, 1, .null), (.iconst 0, 1, .int 0), (.istore_n 2, 1, .null), (.aload_n 0, 1, .null)] (pc' := 9) (L' := [some (.ref (A 0)), some (.int ht), some (.int 0), none, none, none, none]) (st' := [.ref (A 0)]) (by decide +kernel) rfl ?_
  refine V.getf hG hF k_RX3_15 (by decide +kernel) hC.2.2.1 rfl ?_
  refine V.run hF [(.astore_n 3, 1, .null), (.aload_n 3, 1, .null)] (pc' := 14) (L' := [some (.ref (A 0)), some (.int ht), some (.int 0), some (.ref (A 2)), none, none, none]) (st' := [.ref (A 2)]) (by decide +kernel) rfl ?_
  refine V.alen hG hF (by decide +kernel) (by decide) hC.2.2.2.2.1 ?_
  show V G F _ _ _ 15 [some (.ref (A 0)), some (.int ht), some (.int 0), some (.ref (A 2)), none, none, none] [.int (nI 8)] h
  refine V.run hF [(.istore 4, 2, .null), (.iconst 0, 1, .int 0), (.istore 5, 2, .null)] (pc' := 20) (L' := [some (.ref (A 0)), some (.int ht), some (.int 0), some (.ref (A 2)), some (.int (nI 8)), some (.int 0), none]) (st' := []) (by decide +kernel) rfl ?_
  exact loop 0 (Nat.zero_le _) h (by rw [Nat.zero_min, sMelt_0]; exact hC) kpC.rf
end Ye
