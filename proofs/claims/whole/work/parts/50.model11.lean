/-! ===== TallyWaxModel: pass ===== -/
/-- k years are gone, and in the next t tablets are through -/
def mid (σ : Sg) (k t : Nat) : Sg := sYmd (sMelt (yrN k σ) t) (gy σ + k) (gme σ + (goN k σ + gon (yrN k σ) t)) (gde σ)
theorem mid_0 {σ : Sg} {k : Nat} : mid σ k 0 = sYmd (yrN k σ) (gy σ + k) (gme σ + goN k σ) (gde σ) := by
  unfold mid
  rw [sMelt_0]
  show sYmd _ _ (gme σ + (goN k σ + 0)) _ = _
  rw [Int32.add_zero]
theorem mid_T {σ : Sg} {k : Nat} : sYmd (mid σ k (gT σ)) (gy σ + (k + 1)) (gme σ + goN (k + 1) σ) (gde σ) = mid σ (k + 1) 0 := by
  rw [mid_0]
  show sYmd (sMelt (yrN k σ) (gT σ)) _ _ _ = sYmd (sYmd (sMelt (yrN k σ) (gT (yrN k σ))) (gy (yrN k σ) + 1) (gme (yrN k σ)) (gde (yrN k σ))) _ _ _
  rw [yrN_T]
  rfl
theorem mid_n {σ : Sg} {k t : Nat} (hm : ¬ mlt (yrN k σ) t) : mid σ k (t + 1) = mid σ k t := by
  have e2 : gon (yrN k σ) (t + 1) = gon (yrN k σ) t := by
    have e : gon (yrN k σ) (t + 1) = gon (yrN k σ) t + (if mlt (yrN k σ) t then nI (gn (yrN k σ) t) else 0) := rfl
    rw [e, if_neg hm, Int32.add_zero]
  unfold mid
  rw [sMelt_n hm, e2]
theorem iffS {v : Int32} : (¬ v < 1 ∧ ¬ nI 40 < v) ↔ inY v := and_congr Iff.rfl Int32.not_lt
section My
variable {G : Gt} {h h' : Hp} {B : Nat → Nat} {σ : Sg} {x : Int32} {u : Mu} {md hs : Nat → Int32}
set_option maxHeartbeats 4000000 in
theorem c_X4_pass (hG : GOk G) (hM : MO h B σ x u md hs) (hR : RM σ u) (hy : gy σ < 2 ^ 29) (v : Int32) : Ct G yX4_pass (.code yX4_pass cX4_pass 5 (some .int)) 2 42 0 0 [.ref (B 0), .int v] h (fun v' h' => (¬ inY v ∧ anyI v' ∧ MS h h' B σ 1) ∨ (inY v ∧ ∃ n, n ≤ 40 ∧ v = nI n ∧ v' = some (.int (goN n σ)) ∧ MS h h' B (sPass σ n) 0)) pxN := by
  refine Ct.of (by decide +kernel) (Nat.le_of_ble_eq_true rfl) fun F hF hT hN hRm => ?_
  have h8 := hR.1
  refine V.run hF [(.aload_n 0, 1, .null), (.iconst 0, 1, .int 0)] (pc' := 2) (L' := [some (.ref (B 0)), some (.int v), none, none, none]) (st' := [.int 0, .ref (B 0)]) (by decide +kernel) rfl ?_
  refine V.putf hG hF k_RX4_36 (by decide +kernel) hM.2.1 (fun C T N hc => by cases hc; exact ⟨rfl, .int, by decide +kernel, rfl, rfl⟩) (Nat.le_of_ble_eq_true rfl) ?_
  obtain ⟨h_1, gh1⟩ : ∃ z : Hp, z = hset h (B 0) (.inr (4, [.int 0, .int (uth u), .int (nI (gT σ)), .ref (B 1), .ref (B 2), .ref (B 3), .ref (B 4), .ref (B 5), .int (nI (gy σ)), .int (gme σ), .int (gde σ), .ref (B 6), .ref (B 7)])) := ⟨_, rfl⟩
  refine V.hp gh1 ?_
  have gk1 : ∀ q : Nat, q ≠ (B 0) → h_1 q = h q := fun q hq => by rw [gh1]; exact hset_ne hq
  have gs1 : h_1 (B 0) = some (.inr (4, [.int 0, .int (uth u), .int (nI (gT σ)), .ref (B 1), .ref (B 2), .ref (B 3), .ref (B 4), .ref (B 5), .int (nI (gy σ)), .int (gme σ), .int (gde σ), .ref (B 6), .ref (B 7)])) := by rw [gh1]; exact hset_eq
  have hM1 := hM.th gs1 (fun q hq => gk1 q hq)
  have hk1 : kpB h h_1 B := kpB.one (i := 0) (by omega) (fun q hq => gk1 q hq)
  obtain ⟨h1, eh1⟩ : ∃ z, z = h_1 := ⟨_, rfl⟩
  rw [← eh1] at hM1 hk1 ⊢
  refine V.run hF [(.iload_n 1, 1, .null), (.iconst 1, 1, .int 1), (.bipush 40, 2, .int (nI 40))] (pc' := 9) (L' := [some (.ref (B 0)), some (.int v), none, none, none]) (st' := [.int (nI 40), .int 1, .int v]) (by decide +kernel) rfl ?_
  refine V.callS (As := [.int v, .int 1, .int (nI 40)]) (st := []) hG hF k_RX4_39 (by decide +kernel) (c_X4_isIn v 1 (nI 40)) rfl ⟨by rw [hRm]; decide, by rw [hRm]; decide⟩ (Nat.le_of_ble_eq_true rfl) rfl (fun v h_2 gp2 => ?_) (fun E h9 hx => hx.elim)
  obtain ⟨rfl, he_gp2⟩ := gp2
  rw [he_gp2]
  show V G F _ _ _ 12 [some (.ref (B 0)), some (.int v), none, none, none] [.int (tf (¬ v < 1 ∧ ¬ nI 40 < v))] h1
  rw [tf_iff iffS]
  refine V.if_ne hF (off := 9) (tgt := 21) (by decide +kernel) (by decide) (fun c1 => ?_) (fun c1 => ?_)
  · have hx := tf_1 c1
    obtain ⟨n, hn, rfl⟩ : ∃ n : Nat, n ≤ 40 ∧ v = nI n := by
      rcases pk_ix v (n := 41) (by decide) with q | q | ⟨j, hj, e⟩
      · exact absurd (Int32.lt_trans q (by decide)) hx.1
      · exact absurd (Int32.le_trans q hx.2) (by decide)
      · exact ⟨j, by omega, e⟩
    have n03 : B 0 ≠ B 3 := hM.1.ne (by omega) (by omega) (by omega)
    refine V.run hF [(.aload_n 0, 1, .null)] (pc' := 22) (L' := [some (.ref (B 0)), some (.int (nI n)), none, none, none]) (st' := [.ref (B 0)]) (by decide +kernel) rfl ?_
    refine V.getf hG hF k_RX4_107 (by decide +kernel) hM1.2.1 rfl ?_
    refine V.run hF [(.istore_n 2, 1, .null), (.iconst 0, 1, .int (nI 0)), (.istore_n 3, 1, .null)] (pc' := 28) (L' := [some (.ref (B 0)), some (.int (nI n)), some (.int (gme σ)), some (.int (nI 0)), none]) (st' := []) (by decide +kernel) rfl ?_
    obtain ⟨PO, hPO⟩ : ∃ PO : Option Value → Hp → Prop, PO = fun v' h' => (¬ inY (nI n) ∧ anyI v' ∧ MS h h' B σ 1) ∨ (inY (nI n) ∧ ∃ n', n' ≤ 40 ∧ nI n = nI n' ∧ v' = some (.int (goN n' σ)) ∧ MS h h' B (sPass σ n') 0) := ⟨_, rfl⟩
    rw [← hPO]
    have loop : ∀ k, k ≤ n → ∀ (h2 : Hp) (u1 : Mu) (z : Option Value), RM (mid σ k 0) u1 → MO h2 B (mid σ k 0) 0 u1 md hs → kpB h h2 B → V G F (fin G F PO pxN) 0 0 28 [some (.ref (B 0)), some (.int (nI n)), some (.int (gme σ)), some (.int (nI k)), z] [] h2 := by
      refine lp_up n fun k hk ih => ?_
      intro h2 u1 z hR1 hM2 hk2
      refine V.loc (L' := [some (.ref (B 0)), some (.int (nI n)), some (.int (gme σ)), some (.int (nI k)), none]) (fun j v hv => by
        match j, hv with
        | 0, hv => exact hv
        | 1, hv => exact hv
        | 2, hv => exact hv
        | 3, hv => exact hv
        | 4, hv => cases hv
        | q + 5, hv => cases hv) ?_
      have eT : ∀ t, gT (mid σ k t) = gT σ := fun t => yrN_T k σ
      have m0 : h2 (B 0) = some (.inr (4, [.int 0, .int (uth u1), .int (nI (gT σ)), .ref (B 1), .ref (B 2), .ref (B 3), .ref (B 4), .ref (B 5), .int (nI (gy σ + k)), .int (gme σ + goN k σ), .int (gde σ), .ref (B 6), .ref (B 7)])) := by
        have := hM2.2.1
        rw [mid_0] at this
        rw [← yrN_T k σ]
        exact this
      refine V.run hF [(.iload_n 3, 1, .null), (.iload_n 1, 1, .null)] (pc' := 30) (L' := [some (.ref (B 0)), some (.int (nI n)), some (.int (gme σ)), some (.int (nI k)), none]) (st' := [.int (nI n), .int (nI k)]) (by decide +kernel) rfl ?_
      refine V.icmpN_ge (i := k) (j := n) hF (off := 77) (tgt := 107) (by decide +kernel) (by decide) (by omega) (by omega) (fun c2 => ?_) (fun c2 => ?_)
      · have e : k = n := by omega
        refine V.run hF [(.aload_n 0, 1, .null)] (pc' := 108) (L' := [some (.ref (B 0)), some (.int (nI n)), some (.int (gme σ)), some (.int (nI k)), none]) (st' := [.ref (B 0)]) (by decide +kernel) rfl ?_
        refine V.getf hG hF k_RX4_107 (by decide +kernel) m0 rfl ?_
        refine V.run hF [(.iload_n 2, 1, .null), (.isub, 1, .null)] (pc' := 113) (L' := [some (.ref (B 0)), some (.int (nI n)), some (.int (gme σ)), some (.int (nI k)), none]) (st' := [.int ((gme σ + goN k σ) - gme σ)]) (by decide +kernel) rfl ?_
        rw [show gme σ + goN k σ - gme σ = goN k σ by rw [Int32.add_comm, Int32.add_sub_cancel]]
        rw [hPO]
        rw [mid_0] at hR1 hM2
        rw [e] at hR1 hM2 ⊢
        exact V.reti hF (by decide +kernel) (Or.inr ⟨hx, n, hn, rfl, rfl, u1, md, hs, hR1, hM2, hk2⟩)
      · skip
        have c2 : k < n := by omega
        refine V.run hF [(.iconst 0, 1, .int (nI 0)), (.istore 4, 2, .null)] (pc' := 36) (L' := [some (.ref (B 0)), some (.int (nI n)), some (.int (gme σ)), some (.int (nI k)), some (.int (nI 0))]) (st' := []) (by decide +kernel) rfl ?_
        have inner : ∀ t, t ≤ gT σ → ∀ (h3 : Hp) (u1 : Mu), RM (mid σ k t) u1 → MO h3 B (mid σ k t) 0 u1 md hs → kpB h h3 B → V G F (fin G F PO pxN) 0 0 36 [some (.ref (B 0)), some (.int (nI n)), some (.int (gme σ)), some (.int (nI k)), some (.int (nI t))] [] h3 := by
          refine lp_up (gT σ) fun t ht ih2 => ?_
          intro h3 u1 hR1 hM3 hk3
          have m0 : h3 (B 0) = some (.inr (4, [.int 0, .int (uth u1), .int (nI (gT σ)), .ref (B 1), .ref (B 2), .ref (B 3), .ref (B 4), .ref (B 5), .int (nI (gy σ + k)), .int (gme σ + (goN k σ + gon (yrN k σ) t)), .int (gde σ), .ref (B 6), .ref (B 7)])) := by
            have := hM3.2.1
            rw [eT] at this
            exact this
          refine V.run hF [(.iload 4, 2, .null), (.aload_n 0, 1, .null)] (pc' := 39) (L' := [some (.ref (B 0)), some (.int (nI n)), some (.int (gme σ)), some (.int (nI k)), some (.int (nI t))]) (st' := [.ref (B 0), .int (nI t)]) (by decide +kernel) rfl ?_
          refine V.getf hG hF k_RX4_43 (by decide +kernel) m0 rfl ?_
          refine V.icmpN_ge (i := t) (j := gT σ) hF (off := 49) (tgt := 91) (by decide +kernel) (by decide) (by omega) (by omega) (fun c3 => ?_) (fun c3 => ?_)
          · have e : t = gT σ := by omega
            refine V.run hF [(.aload_n 0, 1, .null), (.dup, 1, .null)] (pc' := 93) (L' := [some (.ref (B 0)), some (.int (nI n)), some (.int (gme σ)), some (.int (nI k)), some (.int (nI t))]) (st' := [.ref (B 0), .ref (B 0)]) (by decide +kernel) rfl ?_
            refine V.getf hG hF k_RX4_110 (by decide +kernel) m0 rfl ?_
            refine V.run hF [(.iconst 1, 1, .int 1), (.iadd, 1, .null)] (pc' := 98) (L' := [some (.ref (B 0)), some (.int (nI n)), some (.int (gme σ)), some (.int (nI k)), some (.int (nI t))]) (st' := [.int (nI (gy σ + k) + 1), .ref (B 0)]) (by decide +kernel) rfl ?_
            rw [nI_1]
            refine V.putf hG hF k_RX4_110 (by decide +kernel) m0 (fun C T N hc => by cases hc; exact ⟨rfl, .int, by decide +kernel, rfl, rfl⟩) (Nat.le_of_ble_eq_true rfl) ?_
            obtain ⟨h_3, gh3⟩ : ∃ z : Hp, z = hset h3 (B 0) (.inr (4, [.int 0, .int (uth u1), .int (nI (gT σ)), .ref (B 1), .ref (B 2), .ref (B 3), .ref (B 4), .ref (B 5), .int (nI (gy σ + (k + 1))), .int (gme σ + (goN k σ + gon (yrN k σ) t)), .int (gde σ), .ref (B 6), .ref (B 7)])) := ⟨_, rfl⟩
            refine V.hp gh3 ?_
            have gk3 : ∀ q : Nat, q ≠ (B 0) → h_3 q = h3 q := fun q hq => by rw [gh3]; exact hset_ne hq
            have gs3 : h_3 (B 0) = some (.inr (4, [.int 0, .int (uth u1), .int (nI (gT σ)), .ref (B 1), .ref (B 2), .ref (B 3), .ref (B 4), .ref (B 5), .int (nI (gy σ + (k + 1))), .int (gme σ + (goN k σ + gon (yrN k σ) t)), .int (gde σ), .ref (B 6), .ref (B 7)])) := by rw [gh3]; exact hset_eq
            have hM4 := hM3.c0 (σ' := mid σ (k + 1) 0) (th := uth u1) (y := 0) (by
              rw [← mid_T]
              have := gs3
              rw [e] at this
              have e2 : goN (k + 1) σ = goN k σ + gon (yrN k σ) (gT σ) := rfl
              rw [show gT (sYmd (mid σ k (gT σ)) (gy σ + (k + 1)) (gme σ + goN (k + 1) σ) (gde σ)) = gT σ from eT (gT σ)]
              show h_3 (B 0) = some (.inr (4, [.int 0, .int (uth u1), .int (nI (gT σ)), .ref (B 1), .ref (B 2), .ref (B 3), .ref (B 4), .ref (B 5), .int (nI (gy σ + (k + 1))), .int (gme σ + goN (k + 1) σ), .int (gde σ), .ref (B 6), .ref (B 7)]))
              rw [e2]
              exact this) (fun q hq => gk3 q hq)
            have hk4 := hk3.tr (kpB.one (i := 0) (by omega) (fun q hq => gk3 q hq))
            refine V.run hF [(.iinc 3 1, 3, .int 1), (.goto (-76), 3, .null)] (pc' := 28) (L' := [some (.ref (B 0)), some (.int (nI n)), some (.int (gme σ)), some (.int ((nI k) + 1)), some (.int (nI t))]) (st' := []) (by decide +kernel) rfl ?_
            rw [nI_1 k]
            refine ih c2 _ u1 _ ?_ hM4 hk4
            rw [e] at hR1
            rw [← mid_T]
            exact hR1
          · skip
            have c3 : t < gT σ := by omega
            have c3' : t < gT (mid σ k t) := by rw [eT]; exact c3
            refine V.run hF [(.aload_n 0, 1, .null), (.iload 4, 2, .null), (.aload_n 0, 1, .null)] (pc' := 49) (L' := [some (.ref (B 0)), some (.int (nI n)), some (.int (gme σ)), some (.int (nI k)), some (.int (nI t))]) (st' := [.ref (B 0), .int (nI t), .ref (B 0)]) (by decide +kernel) rfl ?_
            refine V.getf hG hF k_RX4_110 (by decide +kernel) m0 rfl ?_
            refine V.callV (As := [.int (nI t), .int (nI (gy σ + k))]) (st := []) hG hF k_RX4_113 (by decide +kernel) (c_X4_melts hG hM3 hR1 (t := t) (y := gy σ + k) c3' (by omega)) m0 rfl rfl ⟨by rw [hRm]; decide, by rw [hRm]; decide⟩ (Nat.le_of_ble_eq_true rfl) rfl (fun v h_4 gp4 => ?_) (fun E h9 hx => hx.elim)
            obtain ⟨rfl, he_gp4⟩ := gp4
            rw [he_gp4]
            show V G F _ _ _ 55 [some (.ref (B 0)), some (.int (nI n)), some (.int (gme σ)), some (.int (nI k)), some (.int (nI t))] [.int (tf (gce (yrN k σ) t = 0 ∧ gha (yrN k σ) t < ghe (yrN k σ) ((gy σ + k) % 10)))] h3
            have em : tf (gce (yrN k σ) t = 0 ∧ gha (yrN k σ) t < ghe (yrN k σ) ((gy σ + k) % 10)) = tf (mlt (yrN k σ) t) := tf_iff (by
              show _ ↔ (_ ∧ _ < ghe (yrN k σ) ((gy (yrN k σ) + 0) % 10))
              rw [yrN_y]
              exact Iff.rfl)
            rw [em]
            refine V.if_ne hF (off := 6) (tgt := 61) (by decide +kernel) (by decide) (fun c4 => ?_) (fun c4 => ?_)
            · have hm := tf_1 c4
              have eg : gon (yrN k σ) (t + 1) = gon (yrN k σ) t + nI (gn (yrN k σ) t) := by
                show _ + (if _ then _ else _) = _
                rw [if_pos hm]
              have en : umn u1 t = nI (gn (yrN k σ) t) := by
                have := (hR1.mn c3').2.1
                rw [this]
                exact congrArg nI (if_neg (fun q => Nat.lt_irrefl _ q.1))
              refine V.run hF [(.aload_n 0, 1, .null), (.dup, 1, .null)] (pc' := 63) (L' := [some (.ref (B 0)), some (.int (nI n)), some (.int (gme σ)), some (.int (nI k)), some (.int (nI t))]) (st' := [.ref (B 0), .ref (B 0)]) (by decide +kernel) rfl ?_
              refine V.getf hG hF k_RX4_107 (by decide +kernel) m0 rfl ?_
              refine V.run hF [(.aload_n 0, 1, .null)] (pc' := 67) (L' := [some (.ref (B 0)), some (.int (nI n)), some (.int (gme σ)), some (.int (nI k)), some (.int (nI t))]) (st' := [.ref (B 0), .int (gme σ + (goN k σ + gon (yrN k σ) t)), .ref (B 0)]) (by decide +kernel) rfl ?_
              refine V.getf hG hF k_RX4_21 (by decide +kernel) m0 rfl ?_
              refine V.run hF [(.iload 4, 2, .null)] (pc' := 72) (L' := [some (.ref (B 0)), some (.int (nI n)), some (.int (gme σ)), some (.int (nI k)), some (.int (nI t))]) (st' := [.int (nI t), .ref (B 3), .int (gme σ + (goN k σ + gon (yrN k σ) t)), .ref (B 0)]) (by decide +kernel) rfl ?_
              refine V.ialdN (j := t) hG hF (by decide +kernel) hM3.2.2.2.2.1 (by omega) (by decide) ?_
              rw [en]
              refine V.run hF [(.iadd, 1, .null)] (pc' := 74) (L' := [some (.ref (B 0)), some (.int (nI n)), some (.int (gme σ)), some (.int (nI k)), some (.int (nI t))]) (st' := [.int ((gme σ + (goN k σ + gon (yrN k σ) t)) + nI (gn (yrN k σ) t)), .ref (B 0)]) (by decide +kernel) rfl ?_
              rw [show gme σ + (goN k σ + gon (yrN k σ) t) + nI (gn (yrN k σ) t) = gme σ + (goN k σ + gon (yrN k σ) (t + 1)) by rw [eg, Int32.add_assoc, Int32.add_assoc]]
              refine V.putf hG hF k_RX4_107 (by decide +kernel) m0 (fun C T N hc => by cases hc; exact ⟨rfl, .int, by decide +kernel, rfl, rfl⟩) (Nat.le_of_ble_eq_true rfl) ?_
              obtain ⟨h_5, gh5⟩ : ∃ z : Hp, z = hset h3 (B 0) (.inr (4, [.int 0, .int (uth u1), .int (nI (gT σ)), .ref (B 1), .ref (B 2), .ref (B 3), .ref (B 4), .ref (B 5), .int (nI (gy σ + k)), .int (gme σ + (goN k σ + gon (yrN k σ) (t + 1))), .int (gde σ), .ref (B 6), .ref (B 7)])) := ⟨_, rfl⟩
              refine V.hp gh5 ?_
              have gk5 : ∀ q : Nat, q ≠ (B 0) → h_5 q = h3 q := fun q hq => by rw [gh5]; exact hset_ne hq
              have gs5 : h_5 (B 0) = some (.inr (4, [.int 0, .int (uth u1), .int (nI (gT σ)), .ref (B 1), .ref (B 2), .ref (B 3), .ref (B 4), .ref (B 5), .int (nI (gy σ + k)), .int (gme σ + (goN k σ + gon (yrN k σ) (t + 1))), .int (gde σ), .ref (B 6), .ref (B 7)])) := by rw [gh5]; exact hset_eq
              have hM4 : MO h_5 B (mid σ k (t + 1)) 0 u1 md hs := hM3.c0 (σ' := mid σ k (t + 1)) (th := uth u1) (y := 0) (by
                rw [eT]
                exact gs5) (fun q hq => gk5 q hq)
              have hk4 := hk3.tr (kpB.one (i := 0) (by omega) (fun q hq => gk5 q hq))
              refine V.run hF [(.aload_n 0, 1, .null)] (pc' := 78) (L' := [some (.ref (B 0)), some (.int (nI n)), some (.int (gme σ)), some (.int (nI k)), some (.int (nI t))]) (st' := [.ref (B 0)]) (by decide +kernel) rfl ?_
              refine V.getf hG hF k_RX4_21 (by decide +kernel) gs5 rfl ?_
              refine V.run hF [(.iload 4, 2, .null), (.iconst 0, 1, .int 0)] (pc' := 84) (L' := [some (.ref (B 0)), some (.int (nI n)), some (.int (gme σ)), some (.int (nI k)), some (.int (nI t))]) (st' := [.int 0, .int (nI t), .ref (B 3)]) (by decide +kernel) rfl ?_
              have gf6 : h_5 (B 3) = some (.inl (0, 8, .inl (umn u1))) := (gk5 (B 3) (by first | assumption | exact Ne.symm (by assumption) | omega)).trans hM3.2.2.2.2.1
              refine V.iastN (j := t) hG hF (by decide +kernel) gf6 (by omega) (by decide) ?_
              obtain ⟨h_7, gh7⟩ : ∃ z : Hp, z = hset h_5 (B 3) (.inl (0, 8, .inl (upd (umn u1) t 0))) := ⟨_, rfl⟩
              refine V.hp gh7 ?_
              have gk7 : ∀ q : Nat, q ≠ (B 3) → h_7 q = h_5 q := fun q hq => by rw [gh7]; exact hset_ne hq
              have gs7 : h_7 (B 3) = some (.inl (0, 8, .inl (upd (umn u1) t 0))) := by rw [gh7]; exact hset_eq
              have hM5 := hM4.c3 gs7 (fun q hq => gk7 q hq)
              have hk5 := hk4.tr (kpB.one (i := 3) (by omega) (fun q hq => gk7 q hq))
              have hR2 : RM (mid σ k (t + 1)) (uth u1, uha u1, ubl u1, upd (umn u1) t 0, uli u1, uhe u1) := by
                have q := hR1.n0 c3'
                have e5 := sMelt_y (σ := yrN k σ) (i := t) hm
                show RM (sMelt (yrN k σ) (t + 1)) _
                rw [← e5]
                exact q
              refine V.run hF [(.iinc 4 1, 3, .int 1), (.goto (-52), 3, .null)] (pc' := 36) (L' := [some (.ref (B 0)), some (.int (nI n)), some (.int (gme σ)), some (.int (nI k)), some (.int ((nI t) + 1))]) (st' := []) (by decide +kernel) rfl ?_
              rw [nI_1 t]
              exact ih2 c3 _ _ hR2 hM5 hk5
            · skip
              have hm := tf_0 c4
              have e5 := mid_n hm
              refine V.run hF [(.goto 27, 3, .null), (.iinc 4 1, 3, .int 1), (.goto (-52), 3, .null)] (pc' := 36) (L' := [some (.ref (B 0)), some (.int (nI n)), some (.int (gme σ)), some (.int (nI k)), some (.int ((nI t) + 1))]) (st' := []) (by decide +kernel) rfl ?_
              rw [nI_1 t]
              have := ih2 c3 h3 u1
              rw [e5] at this
              exact this hR1 hM3 hk3
        have := inner 0 (Nat.zero_le _) h2 u1 hR1 hM2 hk2
        exact this
    have hM0 : MO h1 B (mid σ 0 0) 0 u md hs := by
      rw [mid_0]
      show MO h1 B (sYmd σ (gy σ) (gme σ + 0) (gde σ)) 0 u md hs
      rw [Int32.add_zero]
      exact hM1
    have hR0 : RM (mid σ 0 0) u := by
      rw [mid_0]
      exact hR
    exact loop 0 (Nat.zero_le _) h1 u none hR0 hM0 hk1
  · skip
    refine V.run hF [(.aload_n 0, 1, .null), (.iconst 1, 1, .int 1)] (pc' := 17) (L' := [some (.ref (B 0)), some (.int v), none, none, none]) (st' := [.int 1, .ref (B 0)]) (by decide +kernel) rfl ?_
    refine V.callV (As := [.int 1]) (st := []) hG hF k_RX4_86 (by decide +kernel) (c_X4_fail hG hM1 1) hM1.2.1 rfl rfl ⟨by rw [hRm]; decide, by rw [hRm]; decide⟩ (Nat.le_of_ble_eq_true rfl) rfl (fun v2 h2 hp => ?_) (fun E h9 hx => hx.elim)
    obtain ⟨rfl, hM2, hk2⟩ := hp
    show V G F _ _ _ 20 [some (.ref (B 0)), some (.int v), none, none, none] [.int 0] h2
    exact V.reti hF (by decide +kernel) (Or.inl ⟨tf_0 c1, ⟨_, rfl⟩, _, _, _, hR, hM2, hk1.tr hk2⟩)
end My