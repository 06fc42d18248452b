/-! ===== TallyWaxModel: what would be ===== -/
theorem pmin_cg {f g : Nat → Int32} : ∀ k, (∀ p, p ≤ k → f p = g p) → pmin f k = pmin g k
  | 0, _ => rfl
  | k + 1, e => by
    have ih := pmin_cg k (fun p hp => e p (by omega))
    have := pmin_le g k
    rw [pmin, pmin, ih, e (k + 1) (by omega), e (pmin g k) (by omega)]
theorem pamt_cg {b b' : Nat → Int32} {d c : Nat} (e : ∀ p, p < 8 → b p = b' p) (hd : d < 8) (hc : c < 8) : pamt b d c = pamt b' d c := by
  rw [pamt, pamt, e d hd, e c hc]
theorem pb2_cg {b b' : Nat → Int32} {d c : Nat} (e : ∀ p, p < 8 → b p = b' p) (hd : d < 8) (hc : c < 8) : ∀ p, p < 8 → pb2 b d c p = pb2 b' d c p := by
  intro p hp
  have k : ∀ q, q < 8 → upd b d (b d + pamt b d c) q = upd b' d (b' d + pamt b' d c) q := fun q hq => by
    by_cases z : q = d
    · rw [z, upd_s, upd_s, e d hd, pamt_cg e hd hc]
    · rw [upd_n z, upd_n z, e q hq]
  unfold pb2
  by_cases z : p = c
  · rw [z, upd_s, upd_s, k c hc, pamt_cg e hd hc]
  · rw [upd_n z, upd_n z, k p hp]
theorem pr_cg {th : Nat → Int32} : ∀ (f : Nat) (b b' : Nat → Int32), (∀ p, p < 8 → b p = b' p) → pr th f b = pr th f b'
  | 0, _, _, _ => rfl
  | f + 1, b, b', e => by
    have e1 := pmin_cg 7 (f := b) (g := b') (fun p hp => e p (by omega))
    have e2 := pmax_cg 7 (f := b) (g := b') (fun p hp => e p (by omega))
    have l1 := pmin_le b' 7
    have l2 := pmax_le b' 7
    unfold pr
    rw [e1, e2, e (pmin b' 7) (by omega), pr_cg f _ _ (pb2_cg e (d := pmin b' 7) (c := pmax b' 7) (by omega) (by omega))]
theorem lfv_lf {σ : Sg} {t : Nat} {g md : Nat → Int32} (hg : ∀ p, p < 8 → g p = gbal σ t p) : lfv (pl (gth σ) 8 (mPS g md 0)) = lf σ t := by
  obtain ⟨e1, e2⟩ := pl_pr (th := gth σ) 8 (mPS g md 0)
  have e3 : pr (gth σ) 8 (pB (mPS g md 0)) = pr (gth σ) 8 (gbal σ t) := pr_cg 8 _ _ hg
  rw [lfv, lf, e1, e2, e3]
  have : pn (mPS g md 0) + (pr (gth σ) 8 (gbal σ t)).2 = (pr (gth σ) 8 (gbal σ t)).2 := Nat.zero_add _
  rw [this]
theorem bst_nn (σ : Sg) : ∀ i, ¬ (bst σ i).2 < 0
  | 0 => (by decide : ¬ (0 : Int32) < 0)
  | i + 1 => by
    have ih := bst_nn σ i
    unfold bst
    by_cases q : (bst σ i).2 < (if i < gT σ then sv σ i else 0)
    · rw [if_pos q]
      exact fun z => ih (Int32.lt_trans q z)
    · rw [if_neg q]
      exact ih
theorem bst_T {σ : Sg} : ∀ k, bst σ (gT σ + k) = bst σ (gT σ)
  | 0 => rfl
  | k + 1 => by
    have := bst_nn σ (gT σ + k)
    rw [show gT σ + (k + 1) = (gT σ + k) + 1 by omega, bst, if_neg (c := gT σ + k < gT σ) (by omega), if_neg this, bst_T k]
abbrev PEA (σ : Sg) : Prop := ∀ t, t < gT σ → ∀ g, (∀ p, p < 8 → g p = gbal σ t p) → pe (gth σ) 8 g
theorem Ct.post {G : Gt} {y : MethodName} {w : Cond} {rf rl mc ms : Nat} {As : List Value} {h : Hp} {po po' : Option Value → Hp → Prop} {px : String → Hp → Prop} (hM : Ct G y w rf rl mc ms As h po px) (h1 : ∀ v h', po v h' → po' v h') : Ct G y w rf rl mc ms As h po' px := by
  refine MetFree.mono hM (fun _ _ q => q) (fun _ _ _ _ _ q => q) (fun a s o s' _ q => ?_)
  rcases q with ⟨⟨v, h', e, q1, q2⟩, q3⟩ | q
  · exact Or.inl ⟨⟨v, h', e, h1 v h' q1, q2⟩, q3⟩
  · exact Or.inr q
section Mu
variable {G : Gt} {h : Hp} {B : Nat → Nat} {σ : Sg} {x : Int32} {u : Mu} {md hs : Nat → Int32}
set_option maxHeartbeats 4000000 in
theorem c_X4_smL (hG : GOk G) (hM : MO h B σ x u md hs) (hR : RM σ u) {t : Nat} (ht : t < gT σ) (hE : PEA σ) : Ct G yX4_smoothed (.code yX4_smoothed cX4_smoothed 7 (some .int)) 3 66 0 0 [.ref (B 0), .int (nI t)] h (fun v h' => v = some (.int (lf σ t)) ∧ ∃ md' hs', MO h' B σ x u md' hs' ∧ kpB h h' B) pxN :=
  (c_X4_smoothed hG hM hR ht (hE t ht)).post (fun v h' q => by
    obtain ⟨g, hg, e, md', hs', -, q1, q2⟩ := q
    exact ⟨by rw [e, lfv_lf hg], md', hs', q1, q2⟩)
set_option maxHeartbeats 4000000 in
theorem c_X4_best (hG : GOk G) (hM : MO h B σ x u md hs) (hR : RM σ u) (hE : PEA σ) : Ct G yX4_best (.code yX4_best cX4_best 5 (some .int)) 4 92 0 0 [.ref (B 0)] h (fun v h' => v = some (.int (bst σ 8).1) ∧ ∃ md' hs', MO h' B σ x u md' hs' ∧ kpB h h' B) pxN := by
  refine Ct.of (by decide +kernel) (Nat.le_of_ble_eq_true rfl) fun F hF hT hN hRm => ?_
  have h8 := hR.1
  refine V.run hF [(.iconst (-1), 1, .int (-1)), (.istore_n 1, 1, .null), (.iconst 0, 1, .int 0), (.istore_n 2, 1, .null), (.iconst 0, 1, .int (nI 0)), (.istore_n 3, 1, .null)] (pc' := 6) (L' := [some (.ref (B 0)), some (.int (-1)), some (.int 0), some (.int (nI 0)), none]) (st' := []) (by decide +kernel) rfl ?_
  have e8 : bst σ 8 = bst σ (gT σ) := by
    have := bst_T (σ := σ) (8 - gT σ)
    rw [show gT σ + (8 - gT σ) = 8 by omega] at this
    exact this
  have loop : ∀ t, t ≤ gT σ → ∀ (h1 : Hp) (md1 hs1 : Nat → Int32) (z : Option Value), MO h1 B σ x u md1 hs1 → kpB h h1 B → V G F (fin G F (fun v h' => v = some (.int (bst σ 8).1) ∧ ∃ md' hs', MO h' B σ x u md' hs' ∧ kpB h h' B) pxN) 0 0 6 [some (.ref (B 0)), some (.int (bst σ t).1), some (.int (bst σ t).2), some (.int (nI t)), z] [] h1 := by
    refine lp_up (gT σ) fun t ht ih => ?_
    intro h1 md1 hs1 z hM1 hk1
    refine V.loc (L' := [some (.ref (B 0)), some (.int (bst σ t).1), some (.int (bst σ t).2), some (.int (nI t)), none]) (fun j v hv => by
      match j, hv with
      | 0, hv => exact hv
      | 1, hv => exact hv
      | 2, hv => exact hv
      | 3, hv => exact hv
      | 4, hv => cases hv
      | q + 5, hv => cases hv) ?_
    refine V.run hF [(.iload_n 3, 1, .null), (.aload_n 0, 1, .null)] (pc' := 8) (L' := [some (.ref (B 0)), some (.int ((bst σ t).1)), some (.int ((bst σ t).2)), some (.int (nI t)), none]) (st' := [.ref (B 0), .int (nI t)]) (by decide +kernel) rfl ?_
    refine V.getf hG hF k_RX4_43 (by decide +kernel) hM1.2.1 rfl ?_
    refine V.icmpN_ge (i := t) (j := gT σ) hF (off := 50) (tgt := 61) (by decide +kernel) (by decide) (by omega) (by omega) (fun c1 => ?_) (fun c1 => ?_)
    · have e : t = gT σ := by omega
      refine V.run hF [(.iload_n 1, 1, .null)] (pc' := 62) (L' := [some (.ref (B 0)), some (.int ((bst σ t).1)), some (.int ((bst σ t).2)), some (.int (nI t)), none]) (st' := [.int ((bst σ t).1)]) (by decide +kernel) rfl ?_
      exact V.reti hF (by decide +kernel) ⟨by rw [e8, e], md1, hs1, hM1, hk1⟩
    · skip
      have c1 : t < gT σ := by omega
      obtain ⟨e1, e2, e3⟩ := hR.mn c1
      refine V.run hF [(.aload_n 0, 1, .null), (.iload_n 3, 1, .null)] (pc' := 16) (L' := [some (.ref (B 0)), some (.int ((bst σ t).1)), some (.int ((bst σ t).2)), some (.int (nI t)), none]) (st' := [.int (nI t), .ref (B 0)]) (by decide +kernel) rfl ?_
      refine V.callV (As := [.int (nI t)]) (st := []) hG hF k_RX4_104 (by decide +kernel) (c_X4_smL hG hM1 hR c1 hE) hM1.2.1 rfl rfl ⟨by rw [hRm]; decide, by rw [hRm]; decide⟩ (Nat.le_of_ble_eq_true rfl) rfl (fun v2 h2 hp => ?_) (fun E h9 hx => hx.elim)
      obtain ⟨rfl, md2, hs2, hM2, hk2⟩ := hp
      show V G F _ _ _ 19 [some (.ref (B 0)), some (.int ((bst σ t).1)), some (.int ((bst σ t).2)), some (.int (nI t)), none] [.int (lf σ t)] h2
      refine V.run hF [(.istore 4, 2, .null), (.iload 4, 2, .null), (.iconst (-1), 1, .int (-1))] (pc' := 24) (L' := [some (.ref (B 0)), some (.int ((bst σ t).1)), some (.int ((bst σ t).2)), some (.int (nI t)), some (.int (lf σ t))]) (st' := [.int (-1), .int (lf σ t)]) (by decide +kernel) rfl ?_
      refine V.icmp_eq hF (off := 31) (tgt := 55) (by decide +kernel) (by decide) (fun c2 => ?_) (fun c2 => ?_)
      · have e : bst σ (t + 1) = bst σ t := by
          rw [bst, if_pos c1, sv, if_pos c2, if_neg (bst_nn σ t)]
        refine V.run hF [(.iinc 3 1, 3, .int 1), (.goto (-52), 3, .null)] (pc' := 6) (L' := [some (.ref (B 0)), some (.int ((bst σ t).1)), some (.int ((bst σ t).2)), some (.int ((nI t) + 1)), some (.int (lf σ t))]) (st' := []) (by decide +kernel) rfl ?_
        rw [nI_1 t]
        have := ih c1 h2 md2 hs2 (some (.int (lf σ t))) hM2 (hk1.tr hk2)
        rw [e] at this
        exact this
      · skip
        have es : sv σ t = nI (gn σ t) - lf σ t := by rw [sv, if_neg c2]
        refine V.run hF [(.aload_n 0, 1, .null)] (pc' := 28) (L' := [some (.ref (B 0)), some (.int ((bst σ t).1)), some (.int ((bst σ t).2)), some (.int (nI t)), some (.int (lf σ t))]) (st' := [.ref (B 0)]) (by decide +kernel) rfl ?_
        refine V.getf hG hF k_RX4_21 (by decide +kernel) hM2.2.1 rfl ?_
        refine V.run hF [(.iload_n 3, 1, .null)] (pc' := 32) (L' := [some (.ref (B 0)), some (.int ((bst σ t).1)), some (.int ((bst σ t).2)), some (.int (nI t)), some (.int (lf σ t))]) (st' := [.int (nI t), .ref (B 3)]) (by decide +kernel) rfl ?_
        refine V.ialdN (j := t) hG hF (by decide +kernel) hM2.2.2.2.2.1 (by omega) (by decide) ?_
        rw [e2]
        refine V.run hF [(.iload 4, 2, .null), (.isub, 1, .null), (.iload_n 2, 1, .null)] (pc' := 37) (L' := [some (.ref (B 0)), some (.int ((bst σ t).1)), some (.int ((bst σ t).2)), some (.int (nI t)), some (.int (lf σ t))]) (st' := [.int ((bst σ t).2), .int (nI (gn σ t) - lf σ t)]) (by decide +kernel) rfl ?_
        refine V.icmp_gt hF (off := 6) (tgt := 43) (by decide +kernel) (by decide) (fun c3 => ?_) (fun c3 => ?_)
        · have e : bst σ (t + 1) = (nI t, nI (gn σ t) - lf σ t) := by
            rw [bst, if_pos c1, es, if_pos c3]
          refine V.run hF [(.iload_n 3, 1, .null), (.istore_n 1, 1, .null), (.aload_n 0, 1, .null)] (pc' := 46) (L' := [some (.ref (B 0)), some (.int (nI t)), some (.int ((bst σ t).2)), some (.int (nI t)), some (.int (lf σ t))]) (st' := [.ref (B 0)]) (by decide +kernel) rfl ?_
          refine V.getf hG hF k_RX4_21 (by decide +kernel) hM2.2.1 rfl ?_
          refine V.run hF [(.iload_n 3, 1, .null)] (pc' := 50) (L' := [some (.ref (B 0)), some (.int (nI t)), some (.int ((bst σ t).2)), some (.int (nI t)), some (.int (lf σ t))]) (st' := [.int (nI t), .ref (B 3)]) (by decide +kernel) rfl ?_
          refine V.ialdN (j := t) hG hF (by decide +kernel) hM2.2.2.2.2.1 (by omega) (by decide) ?_
          rw [e2]
          refine V.run hF [(.iload 4, 2, .null), (.isub, 1, .null), (.istore_n 2, 1, .null), (.iinc 3 1, 3, .int 1), (.goto (-52), 3, .null)] (pc' := 6) (L' := [some (.ref (B 0)), some (.int (nI t)), some (.int (nI (gn σ t) - lf σ t)), some (.int ((nI t) + 1)), some (.int (lf σ t))]) (st' := []) (by decide +kernel) rfl ?_
          rw [nI_1 t]
          have := ih c1 h2 md2 hs2 (some (.int (lf σ t))) hM2 (hk1.tr hk2)
          rw [e] at this
          exact this
        · skip
          have e : bst σ (t + 1) = bst σ t := by
            rw [bst, if_pos c1, es, if_neg c3]
          refine V.run hF [(.goto 15, 3, .null), (.iinc 3 1, 3, .int 1), (.goto (-52), 3, .null)] (pc' := 6) (L' := [some (.ref (B 0)), some (.int ((bst σ t).1)), some (.int ((bst σ t).2)), some (.int ((nI t) + 1)), some (.int (lf σ t))]) (st' := []) (by decide +kernel) rfl ?_
          rw [nI_1 t]
          have := ih c1 h2 md2 hs2 (some (.int (lf σ t))) hM2 (hk1.tr hk2)
          rw [e] at this
          exact this
  exact loop 0 (Nat.zero_le _) h md hs none hM kpB.rf
set_option maxHeartbeats 4000000 in
theorem c_X4_bestToSmooth (hG : GOk G) (hM : MO h B σ x u md hs) (hR : RM σ u) (hE : PEA σ) : Ct G yX4_bestToSmooth (.code yX4_bestToSmooth cX4_bestToSmooth 1 (some .int)) 5 116 0 0 [.ref (B 0)] h (an0 B σ u h (bst σ 8).1) pxN := by
  refine Ct.of (by decide +kernel) (Nat.le_of_ble_eq_true rfl) fun F hF hT hN hRm => ?_
  have h8 := hR.1
  refine V.run hF [(.aload_n 0, 1, .null), (.aload_n 0, 1, .null)] (pc' := 2) (L' := [some (.ref (B 0))]) (st' := [.ref (B 0), .ref (B 0)]) (by decide +kernel) rfl ?_
  refine V.callV (As := []) (st := [.ref (B 0)]) hG hF k_RX4_148 (by decide +kernel) (c_X4_best hG hM hR hE) hM.2.1 rfl rfl ⟨by rw [hRm]; decide, by rw [hRm]; decide⟩ (Nat.le_of_ble_eq_true rfl) rfl (fun v h1 hp => ?_) (fun E h9 hx => hx.elim)
  obtain ⟨rfl, md1, hs1, hM1, hk1⟩ := hp
  show V G F _ _ _ 5 [some (.ref (B 0))] [.int ((bst σ 8).1), .ref (B 0)] h1
  refine V.callV (As := [.int ((bst σ 8).1)]) (st := []) hG hF k_RX4_116 (by decide +kernel) (c_X4_told hG hM1 (bst σ 8).1) hM1.2.1 rfl rfl ⟨by rw [hRm]; decide, by rw [hRm]; decide⟩ (Nat.le_of_ble_eq_true rfl) rfl (fun v h2 hp => ?_) (fun E h9 hx => hx.elim)
  obtain ⟨rfl, hM2, hk2⟩ := hp
  show V G F _ _ _ 8 [some (.ref (B 0))] [.int ((bst σ 8).1)] h2
  exact V.reti hF (by decide +kernel) ⟨rfl, _, _, hM2, hk1.tr hk2⟩
set_option maxHeartbeats 4000000 in
theorem c_X4_linesSmoothed (hG : GOk G) (hM : MO h B σ x u md hs) (hR : RM σ u) (hE : PEA σ) (v : Int32) : Ct G yX4_linesSmoothed (.code yX4_linesSmoothed cX4_linesSmoothed 2 (some .int)) 4 92 0 0 [.ref (B 0), .int v] h (mq B σ u h (inT σ v) (lf σ v.toNatClampNeg)) pxN := by
  refine Ct.of (by decide +kernel) (Nat.le_of_ble_eq_true rfl) fun F hF hT hN hRm => ?_
  have h8 := hR.1
  refine V.run hF [(.aload_n 0, 1, .null), (.iconst 0, 1, .int 0)] (pc' := 2) (L' := [some (.ref (B 0)), some (.int v)]) (st' := [.int 0, .ref (B 0)]) (by decide +kernel) rfl ?_
  refine V.putf hG hF k_RX4_36 (by decide +kernel) hM.2.1 (fun C T N hc => by cases hc; exact ⟨rfl, .int, by decide +kernel, rfl, rfl⟩) (Nat.le_of_ble_eq_true rfl) ?_
  obtain ⟨h_1, gh1⟩ : ∃ z : Hp, z = hset h (B 0) (.inr (4, [.int 0, .int (uth u), .int (nI (gT σ)), .ref (B 1), .ref (B 2), .ref (B 3), .ref (B 4), .ref (B 5), .int (nI (gy σ)), .int (gme σ), .int (gde σ), .ref (B 6), .ref (B 7)])) := ⟨_, rfl⟩
  refine V.hp gh1 ?_
  have gk1 : ∀ q : Nat, q ≠ (B 0) → h_1 q = h q := fun q hq => by rw [gh1]; exact hset_ne hq
  have gs1 : h_1 (B 0) = some (.inr (4, [.int 0, .int (uth u), .int (nI (gT σ)), .ref (B 1), .ref (B 2), .ref (B 3), .ref (B 4), .ref (B 5), .int (nI (gy σ)), .int (gme σ), .int (gde σ), .ref (B 6), .ref (B 7)])) := by rw [gh1]; exact hset_eq
  have hM1 := hM.th gs1 (fun q hq => gk1 q hq)
  have hk1 : kpB h h_1 B := kpB.one (i := 0) (by omega) (fun q hq => gk1 q hq)
  obtain ⟨h1, eh1⟩ : ∃ z, z = h_1 := ⟨_, rfl⟩
  rw [← eh1] at hM1 hk1 ⊢
  refine V.run hF [(.aload_n 0, 1, .null), (.iload_n 1, 1, .null)] (pc' := 7) (L' := [some (.ref (B 0)), some (.int v)]) (st' := [.int v, .ref (B 0)]) (by decide +kernel) rfl ?_
  refine V.callV (As := [.int v]) (st := []) hG hF k_RX4_46 (by decide +kernel) (c_X4_isTablet hG hM1 hR.1 v) hM1.2.1 rfl rfl ⟨by rw [hRm]; decide, by rw [hRm]; decide⟩ (Nat.le_of_ble_eq_true rfl) rfl (fun v h_2 gp2 => ?_) (fun E h9 hx => hx.elim)
  obtain ⟨rfl, he_gp2⟩ := gp2
  rw [he_gp2]
  show V G F _ _ _ 10 [some (.ref (B 0)), some (.int v)] [.int (tf (inT σ v))] h1
  refine V.if_eq hF (off := 11) (tgt := 21) (by decide +kernel) (by decide) (fun c1 => ?_) (fun c1 => ?_)
  · skip
    refine V.run hF [(.aload_n 0, 1, .null), (.iconst 1, 1, .int 1)] (pc' := 23) (L' := [some (.ref (B 0)), some (.int v)]) (st' := [.int 1, .ref (B 0)]) (by decide +kernel) rfl ?_
    refine V.callV (As := [.int 1]) (st := []) hG hF k_RX4_86 (by decide +kernel) (c_X4_fail hG hM1 1) hM1.2.1 rfl rfl ⟨by rw [hRm]; decide, by rw [hRm]; decide⟩ (Nat.le_of_ble_eq_true rfl) rfl (fun v h2 hp => ?_) (fun E h9 hx => hx.elim)
    obtain ⟨rfl, hM2, hk2⟩ := hp
    show V G F _ _ _ 26 [some (.ref (B 0)), some (.int v)] [.int 0] h2
    exact V.reti hF (by decide +kernel) ⟨1, 0, rfl, Or.inr ⟨tf_0 c1, rfl⟩, _, _, hM2, hk1.tr hk2⟩
  · skip
    obtain ⟨t, ht, rfl⟩ := (inT_iff hR.1).mp (tf_1 c1)
    have et : (nI t).toNatClampNeg = t := nI_clamp (by omega)
    obtain ⟨ea, eb, ez, em, en, -⟩ := hR.2.2.2.1 t ht
    refine V.run hF [(.aload_n 0, 1, .null), (.iload_n 1, 1, .null)] (pc' := 15) (L' := [some (.ref (B 0)), some (.int (nI t))]) (st' := [.int (nI t), .ref (B 0)]) (by decide +kernel) rfl ?_
    refine V.callV (As := [.int (nI t)]) (st := []) hG hF k_RX4_104 (by decide +kernel) (c_X4_smL hG hM1 hR ht hE) hM1.2.1 rfl rfl ⟨by rw [hRm]; decide, by rw [hRm]; decide⟩ (Nat.le_of_ble_eq_true rfl) rfl (fun v' h2 hp => ?_) (fun E h9 hx => hx.elim)
    obtain ⟨rfl, md2, hs2, hM2, hk2⟩ := hp
    show V G F _ _ _ 18 [some (.ref (B 0)), some (.int (nI t))] [.int (lf σ t)] h2
    refine V.run hF [(.goto 8, 3, .null)] (pc' := 26) (L' := [some (.ref (B 0)), some (.int (nI t))]) (st' := [.int (lf σ t)]) (by decide +kernel) rfl ?_
    exact V.reti hF (by decide +kernel) ⟨0, _, rfl, Or.inl ⟨tf_1 c1, rfl, by rw [et]⟩, _, _, hM2, hk1.tr hk2⟩
end Mu