/-! ===== TallyWaxModel: write ===== -/
theorem iffM {v : Int32} : (¬ v < 1 ∧ ¬ nI 999 < v) ↔ ¬ v < 1 ∧ v ≤ 999 := and_congr Iff.rfl Int32.not_lt
section Mz
variable {G : Gt} {h h' : Hp} {B : Nat → Nat} {σ : Sg} {x : Int32} {u : Mu} {md hs : Nat → Int32}
/-- one more line -/
theorem RM.wr (hR : RM σ u) {t : Nat} (ht : t < gT σ) (hn : gn σ t < 12) {d c a w : Int32} (hd : inP d) (hc : inP c) (hw : inP w) (hdc : d ≠ c) :
    RM (sWrite σ t d c a w) (uth u, uha u, ubl u, upd (umn u) t (nI (gn σ t + 1)), upd (upd (upd (upd (uli u) (48 * t + 4 * gn σ t + 0) d) (48 * t + 4 * gn σ t + 1) c) (48 * t + 4 * gn σ t + 2) a) (48 * t + 4 * gn σ t + 3) w, uhe u) := by
  refine ⟨hR.1, hR.2.1, hR.2.2.1, fun t' ht' => ?_, fun t' h1 h2 => ⟨by
    have h1 : gT σ ≤ t' := h1
    show upd (umn u) t _ t' = 0
    rw [upd_n (by omega)]
    exact (hR.2.2.2.2 t' h1 h2).1, (hR.2.2.2.2 t' h1 h2).2⟩⟩
  have q := hR.2.2.2.1 t' ht'
  unfold sWrite sTab
  simp only [gha, gce, gn, gDD, gC, gM, gW, gT, uha, ubl, umn, uli, vu_i] at q hn ⊢
  have up : ∀ j, (j < 48 * t + 4 * σ.2.2.2.2.1 t ∨ 48 * t + 4 * σ.2.2.2.2.1 t + 3 < j) → upd (upd (upd (upd u.2.2.2.2.1 (48 * t + 4 * σ.2.2.2.2.1 t + 0) d) (48 * t + 4 * σ.2.2.2.2.1 t + 1) c) (48 * t + 4 * σ.2.2.2.2.1 t + 2) a) (48 * t + 4 * σ.2.2.2.2.1 t + 3) w j = u.2.2.2.2.1 j := fun j hj => by
    rw [upd_n (by omega), upd_n (by omega), upd_n (by omega), upd_n (by omega)]
  by_cases e : t' = t
  · rw [e] at q ⊢
    simp only [vu_s, upd_s]
    refine ⟨q.1, q.2.1, q.2.2.1, trivial, by omega, fun l hl => ?_⟩
    by_cases el : l = σ.2.2.2.2.1 t
    · rw [el]
      simp only [upd_s]
      refine ⟨?_, ?_, ?_, trivial, hd, hc, hw, hdc⟩
      · rw [upd_n (by omega), upd_n (by omega), upd_n (by omega), Nat.add_zero, upd_s]
      · rw [upd_n (by omega), upd_n (by omega), upd_s]
      · rw [upd_n (by omega), upd_s]
    · have := q.2.2.2.2.2 l (by omega)
      rw [up _ (by omega), up _ (by omega), up _ (by omega), up _ (by omega), upd_n el, upd_n el, upd_n el, upd_n el]
      exact this
  · simp only [vu_n e, upd_n e]
    refine ⟨q.1, q.2.1, q.2.2.1, q.2.2.2.1, q.2.2.2.2.1, fun l hl => ?_⟩
    have := q.2.2.2.2.2 l hl
    have hl12 := q.2.2.2.2.1
    rw [up _ (by omega), up _ (by omega), up _ (by omega), up _ (by omega)]
    exact this
abbrev mw1 (σ : Sg) (x d c w : Int32) : Prop := inT σ x ∧ inP d ∧ inP c ∧ inP w
set_option maxHeartbeats 4000000 in
theorem c_X4_write (hG : GOk G) (hM : MO h B σ x u md hs) (hR : RM σ u) (v xd xc xa xw : Int32) : Ct G yX4_write (.code yX4_write cX4_write 7 (some .int)) 2 43 0 0 [.ref (B 0), .int v, .int xd, .int xc, .int xa, .int xw] h (fun v' h' => (¬ mw1 σ v xd xc xw ∧ anyI v' ∧ MS h h' B σ 1) ∨ (mw1 σ v xd xc xw ∧ ¬ wr2 xd xc xa xw ∧ anyI v' ∧ MS h h' B σ 2) ∨ (mw1 σ v xd xc xw ∧ wr2 xd xc xa xw ∧ ¬ wr3 σ v xd xc xw ∧ anyI v' ∧ MS h h' B σ 3) ∨ (mw1 σ v xd xc xw ∧ wr2 xd xc xa xw ∧ wr3 σ v xd xc xw ∧ ∃ t, t < gT σ ∧ v = nI t ∧ v' = some (.int (nI (gn σ t))) ∧ MS h h' B (sWrite σ t xd xc xa xw) 0)) pxN := by
  refine Ct.of (by decide +kernel) (Nat.le_of_ble_eq_true rfl) fun F hF hT hN hRm => ?_
  have h8 := hR.1
  refine V.run hF [(.aload_n 0, 1, .null), (.iconst 0, 1, .int 0)] (pc' := 2) (L' := [some (.ref (B 0)), some (.int v), some (.int xd), some (.int xc), some (.int xa), some (.int xw), none]) (st' := [.int 0, .ref (B 0)]) (by decide +kernel) rfl ?_
  refine V.putf hG hF k_RX4_36 (by decide +kernel) hM.2.1 (fun C T N hc => by cases hc; exact ⟨rfl, .int, by decide +kernel, rfl, rfl⟩) (Nat.le_of_ble_eq_true rfl) ?_
  obtain ⟨h_1, gh1⟩ : ∃ z : Hp, z = hset h (B 0) (.inr (4, [.int 0, .int (uth u), .int (nI (gT σ)), .ref (B 1), .ref (B 2), .ref (B 3), .ref (B 4), .ref (B 5), .int (nI (gy σ)), .int (gme σ), .int (gde σ), .ref (B 6), .ref (B 7)])) := ⟨_, rfl⟩
  refine V.hp gh1 ?_
  have gk1 : ∀ q : Nat, q ≠ (B 0) → h_1 q = h q := fun q hq => by rw [gh1]; exact hset_ne hq
  have gs1 : h_1 (B 0) = some (.inr (4, [.int 0, .int (uth u), .int (nI (gT σ)), .ref (B 1), .ref (B 2), .ref (B 3), .ref (B 4), .ref (B 5), .int (nI (gy σ)), .int (gme σ), .int (gde σ), .ref (B 6), .ref (B 7)])) := by rw [gh1]; exact hset_eq
  have hM1 := hM.th gs1 (fun q hq => gk1 q hq)
  have hk1 : kpB h h_1 B := kpB.one (i := 0) (by omega) (fun q hq => gk1 q hq)
  obtain ⟨h1, eh1⟩ : ∃ z, z = h_1 := ⟨_, rfl⟩
  rw [← eh1] at hM1 hk1 ⊢
  refine V.run hF [(.aload_n 0, 1, .null), (.iload_n 1, 1, .null)] (pc' := 7) (L' := [some (.ref (B 0)), some (.int v), some (.int xd), some (.int xc), some (.int xa), some (.int xw), none]) (st' := [.int v, .ref (B 0)]) (by decide +kernel) rfl ?_
  refine V.callV (As := [.int v]) (st := []) hG hF k_RX4_46 (by decide +kernel) (c_X4_isTablet hG hM1 hR.1 v) hM1.2.1 rfl rfl ⟨by rw [hRm]; decide, by rw [hRm]; decide⟩ (Nat.le_of_ble_eq_true rfl) rfl (fun v h_2 gp2 => ?_) (fun E h9 hx => hx.elim)
  obtain ⟨rfl, he_gp2⟩ := gp2
  rw [he_gp2]
  show V G F _ _ _ 10 [some (.ref (B 0)), some (.int v), some (.int xd), some (.int xc), some (.int xa), some (.int xw), none] [.int (tf (inT σ v))] h1
  refine V.if_eq hF (off := 25) (tgt := 35) (by decide +kernel) (by decide) (fun c1 => ?_) (fun c1 => ?_)
  · skip
    refine V.run hF [(.aload_n 0, 1, .null), (.iconst 1, 1, .int 1)] (pc' := 37) (L' := [some (.ref (B 0)), some (.int v), some (.int xd), some (.int xc), some (.int xa), some (.int xw), none]) (st' := [.int 1, .ref (B 0)]) (by decide +kernel) rfl ?_
    refine V.callV (As := [.int 1]) (st := []) hG hF k_RX4_86 (by decide +kernel) (c_X4_fail hG hM1 1) hM1.2.1 rfl rfl ⟨by rw [hRm]; decide, by rw [hRm]; decide⟩ (Nat.le_of_ble_eq_true rfl) rfl (fun v2 h2 hp => ?_) (fun E h9 hx => hx.elim)
    obtain ⟨rfl, hM2, hk2⟩ := hp
    show V G F _ _ _ 40 [some (.ref (B 0)), some (.int v), some (.int xd), some (.int xc), some (.int xa), some (.int xw), none] [.int 0] h2
    exact V.reti hF (by decide +kernel) (Or.inl ⟨fun q => tf_0 c1 q.1, ⟨_, rfl⟩, _, _, _, hR, hM2, hk1.tr hk2⟩)
  · skip
    refine V.run hF [(.iload_n 2, 1, .null)] (pc' := 14) (L' := [some (.ref (B 0)), some (.int v), some (.int xd), some (.int xc), some (.int xa), some (.int xw), none]) (st' := [.int xd]) (by decide +kernel) rfl ?_
    refine V.callS (As := [.int xd]) (st := []) hG hF k_RX4_90 (by decide +kernel) (c_X4_isPerson hG xd) rfl ⟨by rw [hRm]; decide, by rw [hRm]; decide⟩ (Nat.le_of_ble_eq_true rfl) rfl (fun v h_4 gp4 => ?_) (fun E h9 hx => hx.elim)
    obtain ⟨rfl, he_gp4⟩ := gp4
    rw [he_gp4]
    show V G F _ _ _ 17 [some (.ref (B 0)), some (.int v), some (.int xd), some (.int xc), some (.int xa), some (.int xw), none] [.int (tf (inP xd))] h1
    refine V.if_eq hF (off := 18) (tgt := 35) (by decide +kernel) (by decide) (fun c2 => ?_) (fun c2 => ?_)
    · skip
      refine V.run hF [(.aload_n 0, 1, .null), (.iconst 1, 1, .int 1)] (pc' := 37) (L' := [some (.ref (B 0)), some (.int v), some (.int xd), some (.int xc), some (.int xa), some (.int xw), none]) (st' := [.int 1, .ref (B 0)]) (by decide +kernel) rfl ?_
      refine V.callV (As := [.int 1]) (st := []) hG hF k_RX4_86 (by decide +kernel) (c_X4_fail hG hM1 1) hM1.2.1 rfl rfl ⟨by rw [hRm]; decide, by rw [hRm]; decide⟩ (Nat.le_of_ble_eq_true rfl) rfl (fun v2 h2 hp => ?_) (fun E h9 hx => hx.elim)
      obtain ⟨rfl, hM2, hk2⟩ := hp
      show V G F _ _ _ 40 [some (.ref (B 0)), some (.int v), some (.int xd), some (.int xc), some (.int xa), some (.int xw), none] [.int 0] h2
      exact V.reti hF (by decide +kernel) (Or.inl ⟨fun q => tf_0 c2 q.2.1, ⟨_, rfl⟩, _, _, _, hR, hM2, hk1.tr hk2⟩)
    · skip
      refine V.run hF [(.iload_n 3, 1, .null)] (pc' := 21) (L' := [some (.ref (B 0)), some (.int v), some (.int xd), some (.int xc), some (.int xa), some (.int xw), none]) (st' := [.int xc]) (by decide +kernel) rfl ?_
      refine V.callS (As := [.int xc]) (st := []) hG hF k_RX4_90 (by decide +kernel) (c_X4_isPerson hG xc) rfl ⟨by rw [hRm]; decide, by rw [hRm]; decide⟩ (Nat.le_of_ble_eq_true rfl) rfl (fun v h_6 gp6 => ?_) (fun E h9 hx => hx.elim)
      obtain ⟨rfl, he_gp6⟩ := gp6
      rw [he_gp6]
      show V G F _ _ _ 24 [some (.ref (B 0)), some (.int v), some (.int xd), some (.int xc), some (.int xa), some (.int xw), none] [.int (tf (inP xc))] h1
      refine V.if_eq hF (off := 11) (tgt := 35) (by decide +kernel) (by decide) (fun c3 => ?_) (fun c3 => ?_)
      · skip
        refine V.run hF [(.aload_n 0, 1, .null), (.iconst 1, 1, .int 1)] (pc' := 37) (L' := [some (.ref (B 0)), some (.int v), some (.int xd), some (.int xc), some (.int xa), some (.int xw), none]) (st' := [.int 1, .ref (B 0)]) (by decide +kernel) rfl ?_
        refine V.callV (As := [.int 1]) (st := []) hG hF k_RX4_86 (by decide +kernel) (c_X4_fail hG hM1 1) hM1.2.1 rfl rfl ⟨by rw [hRm]; decide, by rw [hRm]; decide⟩ (Nat.le_of_ble_eq_true rfl) rfl (fun v2 h2 hp => ?_) (fun E h9 hx => hx.elim)
        obtain ⟨rfl, hM2, hk2⟩ := hp
        show V G F _ _ _ 40 [some (.ref (B 0)), some (.int v), some (.int xd), some (.int xc), some (.int xa), some (.int xw), none] [.int 0] h2
        exact V.reti hF (by decide +kernel) (Or.inl ⟨fun q => tf_0 c3 q.2.2.1, ⟨_, rfl⟩, _, _, _, hR, hM2, hk1.tr hk2⟩)
      · skip
        refine V.run hF [(.iload 5, 2, .null)] (pc' := 29) (L' := [some (.ref (B 0)), some (.int v), some (.int xd), some (.int xc), some (.int xa), some (.int xw), none]) (st' := [.int xw]) (by decide +kernel) rfl ?_
        refine V.callS (As := [.int xw]) (st := []) hG hF k_RX4_90 (by decide +kernel) (c_X4_isPerson hG xw) rfl ⟨by rw [hRm]; decide, by rw [hRm]; decide⟩ (Nat.le_of_ble_eq_true rfl) rfl (fun v h_8 gp8 => ?_) (fun E h9 hx => hx.elim)
        obtain ⟨rfl, he_gp8⟩ := gp8
        rw [he_gp8]
        show V G F _ _ _ 32 [some (.ref (B 0)), some (.int v), some (.int xd), some (.int xc), some (.int xa), some (.int xw), none] [.int (tf (inP xw))] h1
        refine V.if_ne hF (off := 9) (tgt := 41) (by decide +kernel) (by decide) (fun c4 => ?_) (fun c4 => ?_)
        · have w1 : mw1 σ v xd xc xw := ⟨tf_1 c1, tf_1 c2, tf_1 c3, tf_1 c4⟩
          refine V.run hF [(.iload_n 2, 1, .null), (.iload_n 3, 1, .null)] (pc' := 43) (L' := [some (.ref (B 0)), some (.int v), some (.int xd), some (.int xc), some (.int xa), some (.int xw), none]) (st' := [.int xc, .int xd]) (by decide +kernel) rfl ?_
          refine V.icmp_eq hF (off := 27) (tgt := 70) (by decide +kernel) (by decide) (fun c5 => ?_) (fun c5 => ?_)
          · skip
            refine V.run hF [(.aload_n 0, 1, .null), (.iconst 2, 1, .int 2)] (pc' := 72) (L' := [some (.ref (B 0)), some (.int v), some (.int xd), some (.int xc), some (.int xa), some (.int xw), none]) (st' := [.int 2, .ref (B 0)]) (by decide +kernel) rfl ?_
            refine V.callV (As := [.int 2]) (st := []) hG hF k_RX4_86 (by decide +kernel) (c_X4_fail hG hM1 2) hM1.2.1 rfl rfl ⟨by rw [hRm]; decide, by rw [hRm]; decide⟩ (Nat.le_of_ble_eq_true rfl) rfl (fun v2 h2 hp => ?_) (fun E h9 hx => hx.elim)
            obtain ⟨rfl, hM2, hk2⟩ := hp
            show V G F _ _ _ 75 [some (.ref (B 0)), some (.int v), some (.int xd), some (.int xc), some (.int xa), some (.int xw), none] [.int 0] h2
            exact V.reti hF (by decide +kernel) (Or.inr (Or.inl ⟨w1, fun q => q.1 (Or.inl c5), ⟨_, rfl⟩, _, _, _, hR, hM2, hk1.tr hk2⟩))
          · skip
            refine V.run hF [(.iload_n 2, 1, .null), (.iload 5, 2, .null)] (pc' := 49) (L' := [some (.ref (B 0)), some (.int v), some (.int xd), some (.int xc), some (.int xa), some (.int xw), none]) (st' := [.int xw, .int xd]) (by decide +kernel) rfl ?_
            refine V.icmp_eq hF (off := 21) (tgt := 70) (by decide +kernel) (by decide) (fun c6 => ?_) (fun c6 => ?_)
            · skip
              refine V.run hF [(.aload_n 0, 1, .null), (.iconst 2, 1, .int 2)] (pc' := 72) (L' := [some (.ref (B 0)), some (.int v), some (.int xd), some (.int xc), some (.int xa), some (.int xw), none]) (st' := [.int 2, .ref (B 0)]) (by decide +kernel) rfl ?_
              refine V.callV (As := [.int 2]) (st := []) hG hF k_RX4_86 (by decide +kernel) (c_X4_fail hG hM1 2) hM1.2.1 rfl rfl ⟨by rw [hRm]; decide, by rw [hRm]; decide⟩ (Nat.le_of_ble_eq_true rfl) rfl (fun v2 h2 hp => ?_) (fun E h9 hx => hx.elim)
              obtain ⟨rfl, hM2, hk2⟩ := hp
              show V G F _ _ _ 75 [some (.ref (B 0)), some (.int v), some (.int xd), some (.int xc), some (.int xa), some (.int xw), none] [.int 0] h2
              exact V.reti hF (by decide +kernel) (Or.inr (Or.inl ⟨w1, fun q => q.1 (Or.inr (Or.inl c6)), ⟨_, rfl⟩, _, _, _, hR, hM2, hk1.tr hk2⟩))
            · skip
              refine V.run hF [(.iload_n 3, 1, .null), (.iload 5, 2, .null)] (pc' := 55) (L' := [some (.ref (B 0)), some (.int v), some (.int xd), some (.int xc), some (.int xa), some (.int xw), none]) (st' := [.int xw, .int xc]) (by decide +kernel) rfl ?_
              refine V.icmp_eq hF (off := 15) (tgt := 70) (by decide +kernel) (by decide) (fun c7 => ?_) (fun c7 => ?_)
              · skip
                refine V.run hF [(.aload_n 0, 1, .null), (.iconst 2, 1, .int 2)] (pc' := 72) (L' := [some (.ref (B 0)), some (.int v), some (.int xd), some (.int xc), some (.int xa), some (.int xw), none]) (st' := [.int 2, .ref (B 0)]) (by decide +kernel) rfl ?_
                refine V.callV (As := [.int 2]) (st := []) hG hF k_RX4_86 (by decide +kernel) (c_X4_fail hG hM1 2) hM1.2.1 rfl rfl ⟨by rw [hRm]; decide, by rw [hRm]; decide⟩ (Nat.le_of_ble_eq_true rfl) rfl (fun v2 h2 hp => ?_) (fun E h9 hx => hx.elim)
                obtain ⟨rfl, hM2, hk2⟩ := hp
                show V G F _ _ _ 75 [some (.ref (B 0)), some (.int v), some (.int xd), some (.int xc), some (.int xa), some (.int xw), none] [.int 0] h2
                exact V.reti hF (by decide +kernel) (Or.inr (Or.inl ⟨w1, fun q => q.1 (Or.inr (Or.inr c7)), ⟨_, rfl⟩, _, _, _, hR, hM2, hk1.tr hk2⟩))
              · skip
                refine V.run hF [(.iload 4, 2, .null), (.iconst 1, 1, .int 1), (.sipush 999, 3, .int (nI 999))] (pc' := 64) (L' := [some (.ref (B 0)), some (.int v), some (.int xd), some (.int xc), some (.int xa), some (.int xw), none]) (st' := [.int (nI 999), .int 1, .int xa]) (by decide +kernel) rfl ?_
                refine V.callS (As := [.int xa, .int 1, .int (nI 999)]) (st := []) hG hF k_RX4_39 (by decide +kernel) (c_X4_isIn xa 1 (nI 999)) rfl ⟨by rw [hRm]; decide, by rw [hRm]; decide⟩ (Nat.le_of_ble_eq_true rfl) rfl (fun v h_12 gp12 => ?_) (fun E h9 hx => hx.elim)
                obtain ⟨rfl, he_gp12⟩ := gp12
                rw [he_gp12]
                show V G F _ _ _ 67 [some (.ref (B 0)), some (.int v), some (.int xd), some (.int xc), some (.int xa), some (.int xw), none] [.int (tf (¬ xa < 1 ∧ ¬ nI 999 < xa))] h1
                rw [tf_iff iffM]
                refine V.if_ne hF (off := 9) (tgt := 76) (by decide +kernel) (by decide) (fun c8 => ?_) (fun c8 => ?_)
                · have w2 : wr2 xd xc xa xw := ⟨fun q => by
                    rcases q with q | q | q
                    · exact c5 q
                    · exact c6 q
                    · exact c7 q, tf_1 c8⟩
                  obtain ⟨t, ht, rfl⟩ := (inT_iff hR.1).mp (tf_1 c1)
                  have et : (nI t).toNatClampNeg = t := nI_clamp (by omega)
                  obtain ⟨pd, hpd, epd⟩ := inP_of (tf_1 c2)
                  obtain ⟨pc, hpc, epc⟩ := inP_of (tf_1 c3)
                  obtain ⟨pw, hpw, epw⟩ := inP_of (tf_1 c4)
                  have kd : ∀ q, q < 8 → (nI q).toNatClampNeg = q := fun q hq => nI_clamp (by omega)
                  have pz : ∀ y q, q < 8 → y = nI q → gth σ q = 0 → ¬ prs σ y := fun y q hq e z r => r.2 (by rw [e, kd q hq]; exact z)
                  have pn : ∀ y q, q < 8 → y = nI q → ¬ gth σ q = 0 → prs σ y := fun y q hq e z => ⟨by rw [e]; exact inP_nI hq, by rw [e, kd q hq]; exact z⟩
                  obtain ⟨-, em, en⟩ := hR.mn ht
                  have n03 : B 0 ≠ B 3 := hM.1.ne (by omega) (by omega) (by omega)
                  have n04 : B 0 ≠ B 4 := hM.1.ne (by omega) (by omega) (by omega)
                  have n34 : B 3 ≠ B 4 := hM.1.ne (by omega) (by omega) (by omega)
                  refine V.run hF [(.aload_n 0, 1, .null)] (pc' := 77) (L' := [some (.ref (B 0)), some (.int (nI t)), some (.int xd), some (.int xc), some (.int xa), some (.int xw), none]) (st' := [.ref (B 0)]) (by decide +kernel) rfl ?_
                  refine V.getf hG hF k_RX4_21 (by decide +kernel) hM1.2.1 rfl ?_
                  refine V.run hF [(.iload_n 1, 1, .null)] (pc' := 81) (L' := [some (.ref (B 0)), some (.int (nI t)), some (.int xd), some (.int xc), some (.int xa), some (.int xw), none]) (st' := [.int (nI t), .ref (B 3)]) (by decide +kernel) rfl ?_
                  refine V.ialdN (j := t) hG hF (by decide +kernel) hM1.2.2.2.2.1 (by omega) (by decide) ?_
                  rw [em]
                  refine V.run hF [(.bipush 12, 2, .int (nI 12))] (pc' := 84) (L' := [some (.ref (B 0)), some (.int (nI t)), some (.int xd), some (.int xc), some (.int xa), some (.int xw), none]) (st' := [.int (nI 12), .int (nI (gn σ t))]) (by decide +kernel) rfl ?_
                  refine V.icmpN_eq (i := gn σ t) (j := 12) hF (off := 28) (tgt := 112) (by decide +kernel) (by decide) (by omega) (by omega) (fun c9 => ?_) (fun c9 => ?_)
                  · skip
                    refine V.run hF [(.aload_n 0, 1, .null), (.iconst 3, 1, .int 3)] (pc' := 114) (L' := [some (.ref (B 0)), some (.int (nI t)), some (.int xd), some (.int xc), some (.int xa), some (.int xw), none]) (st' := [.int 3, .ref (B 0)]) (by decide +kernel) rfl ?_
                    refine V.callV (As := [.int 3]) (st := []) hG hF k_RX4_86 (by decide +kernel) (c_X4_fail hG hM1 3) hM1.2.1 rfl rfl ⟨by rw [hRm]; decide, by rw [hRm]; decide⟩ (Nat.le_of_ble_eq_true rfl) rfl (fun v2 h2 hp => ?_) (fun E h9 hx => hx.elim)
                    obtain ⟨rfl, hM2, hk2⟩ := hp
                    show V G F _ _ _ 117 [some (.ref (B 0)), some (.int (nI t)), some (.int xd), some (.int xc), some (.int xa), some (.int xw), none] [.int 0] h2
                    exact V.reti hF (by decide +kernel) (Or.inr (Or.inr (Or.inl ⟨w1, w2, fun q => absurd q.1 (by rw [et]; omega), ⟨_, rfl⟩, _, _, _, hR, hM2, hk1.tr hk2⟩)))
                  · skip
                    refine V.run hF [(.aload_n 0, 1, .null), (.iload_n 2, 1, .null)] (pc' := 89) (L' := [some (.ref (B 0)), some (.int (nI t)), some (.int xd), some (.int xc), some (.int xa), some (.int xw), none]) (st' := [.int xd, .ref (B 0)]) (by decide +kernel) rfl ?_
                    have cI : ∀ y q, q < 8 → y = nI q → Ct G yX4_is (.code yX4_is cX4_is 2 (some .boolean)) 0 0 0 0 [.ref (B 0), .int y] h1 (is_i (gth σ q) h1) pxN := fun y q hq e => by
                      rw [e]
                      exact c_X4_is hG hM1 hR hq
                    refine V.callV (As := [.int xd]) (st := []) hG hF k_RX4_64 (by decide +kernel) (cI xd pd hpd epd) hM1.2.1 rfl rfl ⟨by rw [hRm]; decide, by rw [hRm]; decide⟩ (Nat.le_of_ble_eq_true rfl) rfl (fun v h_14 gp14 => ?_) (fun E h9 hx => hx.elim)
                    obtain ⟨rfl, he_gp14⟩ := gp14
                    rw [he_gp14]
                    show V G F _ _ _ 92 [some (.ref (B 0)), some (.int (nI t)), some (.int xd), some (.int xc), some (.int xa), some (.int xw), none] [.int (gth σ pd)] h1
                    refine V.if_eq hF (off := 20) (tgt := 112) (by decide +kernel) (by decide) (fun ca => ?_) (fun ca => ?_)
                    · skip
                      refine V.run hF [(.aload_n 0, 1, .null), (.iconst 3, 1, .int 3)] (pc' := 114) (L' := [some (.ref (B 0)), some (.int (nI t)), some (.int xd), some (.int xc), some (.int xa), some (.int xw), none]) (st' := [.int 3, .ref (B 0)]) (by decide +kernel) rfl ?_
                      refine V.callV (As := [.int 3]) (st := []) hG hF k_RX4_86 (by decide +kernel) (c_X4_fail hG hM1 3) hM1.2.1 rfl rfl ⟨by rw [hRm]; decide, by rw [hRm]; decide⟩ (Nat.le_of_ble_eq_true rfl) rfl (fun v2 h2 hp => ?_) (fun E h9 hx => hx.elim)
                      obtain ⟨rfl, hM2, hk2⟩ := hp
                      show V G F _ _ _ 117 [some (.ref (B 0)), some (.int (nI t)), some (.int xd), some (.int xc), some (.int xa), some (.int xw), none] [.int 0] h2
                      exact V.reti hF (by decide +kernel) (Or.inr (Or.inr (Or.inl ⟨w1, w2, fun q => pz xd pd hpd epd ca q.2.1, ⟨_, rfl⟩, _, _, _, hR, hM2, hk1.tr hk2⟩)))
                    · skip
                      refine V.run hF [(.aload_n 0, 1, .null), (.iload_n 3, 1, .null)] (pc' := 97) (L' := [some (.ref (B 0)), some (.int (nI t)), some (.int xd), some (.int xc), some (.int xa), some (.int xw), none]) (st' := [.int xc, .ref (B 0)]) (by decide +kernel) rfl ?_
                      refine V.callV (As := [.int xc]) (st := []) hG hF k_RX4_64 (by decide +kernel) (cI xc pc hpc epc) hM1.2.1 rfl rfl ⟨by rw [hRm]; decide, by rw [hRm]; decide⟩ (Nat.le_of_ble_eq_true rfl) rfl (fun v h_16 gp16 => ?_) (fun E h9 hx => hx.elim)
                      obtain ⟨rfl, he_gp16⟩ := gp16
                      rw [he_gp16]
                      show V G F _ _ _ 100 [some (.ref (B 0)), some (.int (nI t)), some (.int xd), some (.int xc), some (.int xa), some (.int xw), none] [.int (gth σ pc)] h1
                      refine V.if_eq hF (off := 12) (tgt := 112) (by decide +kernel) (by decide) (fun cb => ?_) (fun cb => ?_)
                      · skip
                        refine V.run hF [(.aload_n 0, 1, .null), (.iconst 3, 1, .int 3)] (pc' := 114) (L' := [some (.ref (B 0)), some (.int (nI t)), some (.int xd), some (.int xc), some (.int xa), some (.int xw), none]) (st' := [.int 3, .ref (B 0)]) (by decide +kernel) rfl ?_
                        refine V.callV (As := [.int 3]) (st := []) hG hF k_RX4_86 (by decide +kernel) (c_X4_fail hG hM1 3) hM1.2.1 rfl rfl ⟨by rw [hRm]; decide, by rw [hRm]; decide⟩ (Nat.le_of_ble_eq_true rfl) rfl (fun v2 h2 hp => ?_) (fun E h9 hx => hx.elim)
                        obtain ⟨rfl, hM2, hk2⟩ := hp
                        show V G F _ _ _ 117 [some (.ref (B 0)), some (.int (nI t)), some (.int xd), some (.int xc), some (.int xa), some (.int xw), none] [.int 0] h2
                        exact V.reti hF (by decide +kernel) (Or.inr (Or.inr (Or.inl ⟨w1, w2, fun q => pz xc pc hpc epc cb q.2.2.1, ⟨_, rfl⟩, _, _, _, hR, hM2, hk1.tr hk2⟩)))
                      · skip
                        refine V.run hF [(.aload_n 0, 1, .null), (.iload 5, 2, .null)] (pc' := 106) (L' := [some (.ref (B 0)), some (.int (nI t)), some (.int xd), some (.int xc), some (.int xa), some (.int xw), none]) (st' := [.int xw, .ref (B 0)]) (by decide +kernel) rfl ?_
                        refine V.callV (As := [.int xw]) (st := []) hG hF k_RX4_64 (by decide +kernel) (cI xw pw hpw epw) hM1.2.1 rfl rfl ⟨by rw [hRm]; decide, by rw [hRm]; decide⟩ (Nat.le_of_ble_eq_true rfl) rfl (fun v h_18 gp18 => ?_) (fun E h9 hx => hx.elim)
                        obtain ⟨rfl, he_gp18⟩ := gp18
                        rw [he_gp18]
                        show V G F _ _ _ 109 [some (.ref (B 0)), some (.int (nI t)), some (.int xd), some (.int xc), some (.int xa), some (.int xw), none] [.int (gth σ pw)] h1
                        refine V.if_ne hF (off := 9) (tgt := 118) (by decide +kernel) (by decide) (fun cc => ?_) (fun cc => ?_)
                        · have w3 : wr3 σ (nI t) xd xc xw := ⟨by rw [et]; omega, pn xd pd hpd epd ca, pn xc pc hpc epc cb, pn xw pw hpw epw cc⟩
                          refine V.run hF [(.iload_n 1, 1, .null), (.aload_n 0, 1, .null)] (pc' := 120) (L' := [some (.ref (B 0)), some (.int (nI t)), some (.int xd), some (.int xc), some (.int xa), some (.int xw), none]) (st' := [.ref (B 0), .int (nI t)]) (by decide +kernel) rfl ?_
                          refine V.getf hG hF k_RX4_21 (by decide +kernel) hM1.2.1 rfl ?_
                          refine V.run hF [(.iload_n 1, 1, .null)] (pc' := 124) (L' := [some (.ref (B 0)), some (.int (nI t)), some (.int xd), some (.int xc), some (.int xa), some (.int xw), none]) (st' := [.int (nI t), .ref (B 3), .int (nI t)]) (by decide +kernel) rfl ?_
                          refine V.ialdN (j := t) hG hF (by decide +kernel) hM1.2.2.2.2.1 (by omega) (by decide) ?_
                          rw [em]
                          refine V.callS (As := [.int (nI t), .int (nI (gn σ t))]) (st := []) hG hF k_RX4_50 (by decide +kernel) (c_X4_at t (gn σ t)) rfl ⟨by rw [hRm]; decide, by rw [hRm]; decide⟩ (Nat.le_of_ble_eq_true rfl) rfl (fun v h_19 gp19 => ?_) (fun E h9 hx => hx.elim)
                          obtain ⟨rfl, he_gp19⟩ := gp19
                          rw [he_gp19]
                          show V G F _ _ _ 128 [some (.ref (B 0)), some (.int (nI t)), some (.int xd), some (.int xc), some (.int xa), some (.int xw), none] [.int (nI (48 * t + 4 * gn σ t))] h1
                          refine V.run hF [(.istore 6, 2, .null), (.aload_n 0, 1, .null)] (pc' := 131) (L' := [some (.ref (B 0)), some (.int (nI t)), some (.int xd), some (.int xc), some (.int xa), some (.int xw), some (.int (nI (48 * t + 4 * gn σ t)))]) (st' := [.ref (B 0)]) (by decide +kernel) rfl ?_
                          refine V.getf hG hF k_RX4_24 (by decide +kernel) hM1.2.1 rfl ?_
                          refine V.run hF [(.iload 6, 2, .null), (.iconst 0, 1, .int (nI 0)), (.iadd, 1, .null)] (pc' := 138) (L' := [some (.ref (B 0)), some (.int (nI t)), some (.int xd), some (.int xc), some (.int xa), some (.int xw), some (.int (nI (48 * t + 4 * gn σ t)))]) (st' := [.int (nI (48 * t + 4 * gn σ t) + nI 0), .ref (B 4)]) (by decide +kernel) rfl ?_
                          rw [nI_add]
                          refine V.run hF [(.iload_n 2, 1, .null)] (pc' := 139) (L' := [some (.ref (B 0)), some (.int (nI t)), some (.int xd), some (.int xc), some (.int xa), some (.int xw), some (.int (nI (48 * t + 4 * gn σ t)))]) (st' := [.int xd, .int (nI (48 * t + 4 * gn σ t + 0)), .ref (B 4)]) (by decide +kernel) rfl ?_
                          refine V.iastN (j := 48 * t + 4 * gn σ t + 0) hG hF (by decide +kernel) hM1.2.2.2.2.2.1 (by omega) (by decide) ?_
                          obtain ⟨h_20, gh20⟩ : ∃ z : Hp, z = hset h1 (B 4) (.inl (0, 384, .inl (upd (uli u) (48 * t + 4 * gn σ t + 0) xd))) := ⟨_, rfl⟩
                          refine V.hp gh20 ?_
                          have gk20 : ∀ q : Nat, q ≠ (B 4) → h_20 q = h1 q := fun q hq => by rw [gh20]; exact hset_ne hq
                          have gs20 : h_20 (B 4) = some (.inl (0, 384, .inl (upd (uli u) (48 * t + 4 * gn σ t + 0) xd))) := by rw [gh20]; exact hset_eq
                          refine V.run hF [(.aload_n 0, 1, .null)] (pc' := 141) (L' := [some (.ref (B 0)), some (.int (nI t)), some (.int xd), some (.int xc), some (.int xa), some (.int xw), some (.int (nI (48 * t + 4 * gn σ t)))]) (st' := [.ref (B 0)]) (by decide +kernel) rfl ?_
                          have gf21 : h_20 (B 0) = some (.inr (4, [.int 0, .int (uth u), .int (nI (gT σ)), .ref (B 1), .ref (B 2), .ref (B 3), .ref (B 4), .ref (B 5), .int (nI (gy σ)), .int (gme σ), .int (gde σ), .ref (B 6), .ref (B 7)])) := (gk20 (B 0) (by first | assumption | exact Ne.symm (by assumption) | omega)).trans hM1.2.1
                          refine V.getf hG hF k_RX4_24 (by decide +kernel) gf21 rfl ?_
                          refine V.run hF [(.iload 6, 2, .null), (.iconst 1, 1, .int (nI 1)), (.iadd, 1, .null)] (pc' := 148) (L' := [some (.ref (B 0)), some (.int (nI t)), some (.int xd), some (.int xc), some (.int xa), some (.int xw), some (.int (nI (48 * t + 4 * gn σ t)))]) (st' := [.int (nI (48 * t + 4 * gn σ t) + nI 1), .ref (B 4)]) (by decide +kernel) rfl ?_
                          rw [nI_add]
                          refine V.run hF [(.iload_n 3, 1, .null)] (pc' := 149) (L' := [some (.ref (B 0)), some (.int (nI t)), some (.int xd), some (.int xc), some (.int xa), some (.int xw), some (.int (nI (48 * t + 4 * gn σ t)))]) (st' := [.int xc, .int (nI (48 * t + 4 * gn σ t + 1)), .ref (B 4)]) (by decide +kernel) rfl ?_
                          refine V.iastN (j := 48 * t + 4 * gn σ t + 1) hG hF (by decide +kernel) gs20 (by omega) (by decide) ?_
                          obtain ⟨h_22, gh22⟩ : ∃ z : Hp, z = hset h_20 (B 4) (.inl (0, 384, .inl (upd (upd (uli u) (48 * t + 4 * gn σ t + 0) xd) (48 * t + 4 * gn σ t + 1) xc))) := ⟨_, rfl⟩
                          refine V.hp gh22 ?_
                          have gk22 : ∀ q : Nat, q ≠ (B 4) → h_22 q = h_20 q := fun q hq => by rw [gh22]; exact hset_ne hq
                          have gs22 : h_22 (B 4) = some (.inl (0, 384, .inl (upd (upd (uli u) (48 * t + 4 * gn σ t + 0) xd) (48 * t + 4 * gn σ t + 1) xc))) := by rw [gh22]; exact hset_eq
                          refine V.run hF [(.aload_n 0, 1, .null)] (pc' := 151) (L' := [some (.ref (B 0)), some (.int (nI t)), some (.int xd), some (.int xc), some (.int xa), some (.int xw), some (.int (nI (48 * t + 4 * gn σ t)))]) (st' := [.ref (B 0)]) (by decide +kernel) rfl ?_
                          have gf23 : h_22 (B 0) = some (.inr (4, [.int 0, .int (uth u), .int (nI (gT σ)), .ref (B 1), .ref (B 2), .ref (B 3), .ref (B 4), .ref (B 5), .int (nI (gy σ)), .int (gme σ), .int (gde σ), .ref (B 6), .ref (B 7)])) := (gk22 (B 0) (by first | assumption | exact Ne.symm (by assumption) | omega)).trans gf21
                          refine V.getf hG hF k_RX4_24 (by decide +kernel) gf23 rfl ?_
                          refine V.run hF [(.iload 6, 2, .null), (.iconst 2, 1, .int (nI 2)), (.iadd, 1, .null)] (pc' := 158) (L' := [some (.ref (B 0)), some (.int (nI t)), some (.int xd), some (.int xc), some (.int xa), some (.int xw), some (.int (nI (48 * t + 4 * gn σ t)))]) (st' := [.int (nI (48 * t + 4 * gn σ t) + nI 2), .ref (B 4)]) (by decide +kernel) rfl ?_
                          rw [nI_add]
                          refine V.run hF [(.iload 4, 2, .null)] (pc' := 160) (L' := [some (.ref (B 0)), some (.int (nI t)), some (.int xd), some (.int xc), some (.int xa), some (.int xw), some (.int (nI (48 * t + 4 * gn σ t)))]) (st' := [.int xa, .int (nI (48 * t + 4 * gn σ t + 2)), .ref (B 4)]) (by decide +kernel) rfl ?_
                          refine V.iastN (j := 48 * t + 4 * gn σ t + 2) hG hF (by decide +kernel) gs22 (by omega) (by decide) ?_
                          obtain ⟨h_24, gh24⟩ : ∃ z : Hp, z = hset h_22 (B 4) (.inl (0, 384, .inl (upd (upd (upd (uli u) (48 * t + 4 * gn σ t + 0) xd) (48 * t + 4 * gn σ t + 1) xc) (48 * t + 4 * gn σ t + 2) xa))) := ⟨_, rfl⟩
                          refine V.hp gh24 ?_
                          have gk24 : ∀ q : Nat, q ≠ (B 4) → h_24 q = h_22 q := fun q hq => by rw [gh24]; exact hset_ne hq
                          have gs24 : h_24 (B 4) = some (.inl (0, 384, .inl (upd (upd (upd (uli u) (48 * t + 4 * gn σ t + 0) xd) (48 * t + 4 * gn σ t + 1) xc) (48 * t + 4 * gn σ t + 2) xa))) := by rw [gh24]; exact hset_eq
                          refine V.run hF [(.aload_n 0, 1, .null)] (pc' := 162) (L' := [some (.ref (B 0)), some (.int (nI t)), some (.int xd), some (.int xc), some (.int xa), some (.int xw), some (.int (nI (48 * t + 4 * gn σ t)))]) (st' := [.ref (B 0)]) (by decide +kernel) rfl ?_
                          have gf25 : h_24 (B 0) = some (.inr (4, [.int 0, .int (uth u), .int (nI (gT σ)), .ref (B 1), .ref (B 2), .ref (B 3), .ref (B 4), .ref (B 5), .int (nI (gy σ)), .int (gme σ), .int (gde σ), .ref (B 6), .ref (B 7)])) := (gk24 (B 0) (by first | assumption | exact Ne.symm (by assumption) | omega)).trans gf23
                          refine V.getf hG hF k_RX4_24 (by decide +kernel) gf25 rfl ?_
                          refine V.run hF [(.iload 6, 2, .null), (.iconst 3, 1, .int (nI 3)), (.iadd, 1, .null)] (pc' := 169) (L' := [some (.ref (B 0)), some (.int (nI t)), some (.int xd), some (.int xc), some (.int xa), some (.int xw), some (.int (nI (48 * t + 4 * gn σ t)))]) (st' := [.int (nI (48 * t + 4 * gn σ t) + nI 3), .ref (B 4)]) (by decide +kernel) rfl ?_
                          rw [nI_add]
                          refine V.run hF [(.iload 5, 2, .null)] (pc' := 171) (L' := [some (.ref (B 0)), some (.int (nI t)), some (.int xd), some (.int xc), some (.int xa), some (.int xw), some (.int (nI (48 * t + 4 * gn σ t)))]) (st' := [.int xw, .int (nI (48 * t + 4 * gn σ t + 3)), .ref (B 4)]) (by decide +kernel) rfl ?_
                          refine V.iastN (j := 48 * t + 4 * gn σ t + 3) hG hF (by decide +kernel) gs24 (by omega) (by decide) ?_
                          obtain ⟨h_26, gh26⟩ : ∃ z : Hp, z = hset h_24 (B 4) (.inl (0, 384, .inl (upd (upd (upd (upd (uli u) (48 * t + 4 * gn σ t + 0) xd) (48 * t + 4 * gn σ t + 1) xc) (48 * t + 4 * gn σ t + 2) xa) (48 * t + 4 * gn σ t + 3) xw))) := ⟨_, rfl⟩
                          refine V.hp gh26 ?_
                          have gk26 : ∀ q : Nat, q ≠ (B 4) → h_26 q = h_24 q := fun q hq => by rw [gh26]; exact hset_ne hq
                          have gs26 : h_26 (B 4) = some (.inl (0, 384, .inl (upd (upd (upd (upd (uli u) (48 * t + 4 * gn σ t + 0) xd) (48 * t + 4 * gn σ t + 1) xc) (48 * t + 4 * gn σ t + 2) xa) (48 * t + 4 * gn σ t + 3) xw))) := by rw [gh26]; exact hset_eq
                          have hM2 := hM1.c4 gs26 (fun q hq => (gk26 q hq).trans ((gk24 q hq).trans ((gk22 q hq).trans (gk20 q hq))))
                          have hk2 : kpB h h_26 B := hk1.tr (kpB.one (i := 4) (by omega) (fun q hq => (gk26 q hq).trans ((gk24 q hq).trans ((gk22 q hq).trans (gk20 q hq)))))
                          refine V.run hF [(.aload_n 0, 1, .null)] (pc' := 173) (L' := [some (.ref (B 0)), some (.int (nI t)), some (.int xd), some (.int xc), some (.int xa), some (.int xw), some (.int (nI (48 * t + 4 * gn σ t)))]) (st' := [.ref (B 0)]) (by decide +kernel) rfl ?_
                          have gf27 : h_26 (B 0) = some (.inr (4, [.int 0, .int (uth u), .int (nI (gT σ)), .ref (B 1), .ref (B 2), .ref (B 3), .ref (B 4), .ref (B 5), .int (nI (gy σ)), .int (gme σ), .int (gde σ), .ref (B 6), .ref (B 7)])) := (gk26 (B 0) (by first | assumption | exact Ne.symm (by assumption) | omega)).trans gf25
                          refine V.getf hG hF k_RX4_21 (by decide +kernel) gf27 rfl ?_
                          refine V.run hF [(.iload_n 1, 1, .null), (.dup2, 1, .null)] (pc' := 178) (L' := [some (.ref (B 0)), some (.int (nI t)), some (.int xd), some (.int xc), some (.int xa), some (.int xw), some (.int (nI (48 * t + 4 * gn σ t)))]) (st' := [.int (nI t), .ref (B 3), .int (nI t), .ref (B 3)]) (by decide +kernel) rfl ?_
                          have gf28 : h_26 (B 3) = some (.inl (0, 8, .inl (umn u))) := (gk26 (B 3) (by first | assumption | exact Ne.symm (by assumption) | omega)).trans ((gk24 (B 3) (by first | assumption | exact Ne.symm (by assumption) | omega)).trans ((gk22 (B 3) (by first | assumption | exact Ne.symm (by assumption) | omega)).trans ((gk20 (B 3) (by first | assumption | exact Ne.symm (by assumption) | omega)).trans hM1.2.2.2.2.1)))
                          refine V.ialdN (j := t) hG hF (by decide +kernel) gf28 (by omega) (by decide) ?_
                          rw [em]
                          refine V.run hF [(.iconst 1, 1, .int 1), (.iadd, 1, .null)] (pc' := 181) (L' := [some (.ref (B 0)), some (.int (nI t)), some (.int xd), some (.int xc), some (.int xa), some (.int xw), some (.int (nI (48 * t + 4 * gn σ t)))]) (st' := [.int (nI (gn σ t) + 1), .int (nI t), .ref (B 3)]) (by decide +kernel) rfl ?_
                          rw [nI_1]
                          refine V.iastN (j := t) hG hF (by decide +kernel) gf28 (by omega) (by decide) ?_
                          obtain ⟨h_29, gh29⟩ : ∃ z : Hp, z = hset h_26 (B 3) (.inl (0, 8, .inl (upd (umn u) t (nI (gn σ t + 1))))) := ⟨_, rfl⟩
                          refine V.hp gh29 ?_
                          have gk29 : ∀ q : Nat, q ≠ (B 3) → h_29 q = h_26 q := fun q hq => by rw [gh29]; exact hset_ne hq
                          have gs29 : h_29 (B 3) = some (.inl (0, 8, .inl (upd (umn u) t (nI (gn σ t + 1))))) := by rw [gh29]; exact hset_eq
                          have hM3 := hM2.c3 gs29 (fun q hq => gk29 q hq)
                          have hk3 : kpB h h_29 B := hk2.tr (kpB.one (i := 3) (by omega) (fun q hq => gk29 q hq))
                          refine V.run hF [(.aload_n 0, 1, .null)] (pc' := 183) (L' := [some (.ref (B 0)), some (.int (nI t)), some (.int xd), some (.int xc), some (.int xa), some (.int xw), some (.int (nI (48 * t + 4 * gn σ t)))]) (st' := [.ref (B 0)]) (by decide +kernel) rfl ?_
                          have gf30 : h_29 (B 0) = some (.inr (4, [.int 0, .int (uth u), .int (nI (gT σ)), .ref (B 1), .ref (B 2), .ref (B 3), .ref (B 4), .ref (B 5), .int (nI (gy σ)), .int (gme σ), .int (gde σ), .ref (B 6), .ref (B 7)])) := (gk29 (B 0) (by first | assumption | exact Ne.symm (by assumption) | omega)).trans gf27
                          refine V.getf hG hF k_RX4_21 (by decide +kernel) gf30 rfl ?_
                          refine V.run hF [(.iload_n 1, 1, .null)] (pc' := 187) (L' := [some (.ref (B 0)), some (.int (nI t)), some (.int xd), some (.int xc), some (.int xa), some (.int xw), some (.int (nI (48 * t + 4 * gn σ t)))]) (st' := [.int (nI t), .ref (B 3)]) (by decide +kernel) rfl ?_
                          refine V.ialdN (j := t) hG hF (by decide +kernel) gs29 (by omega) (by decide) ?_
                          rw [upd_s]
                          refine V.run hF [(.iconst 1, 1, .int 1), (.isub, 1, .null)] (pc' := 190) (L' := [some (.ref (B 0)), some (.int (nI t)), some (.int xd), some (.int xc), some (.int xa), some (.int xw), some (.int (nI (48 * t + 4 * gn σ t)))]) (st' := [.int (nI (gn σ t + 1) - 1)]) (by decide +kernel) rfl ?_
                          rw [nI_pred]
                          exact V.reti hF (by decide +kernel) (Or.inr (Or.inr (Or.inr ⟨w1, w2, w3, t, ht, rfl, rfl, _, _, _, hR.wr ht (by omega) w1.2.1 w1.2.2.1 w1.2.2.2 (fun z => w2.1 (Or.inl z)), hM3, hk3⟩)))
                        · skip
                          refine V.run hF [(.aload_n 0, 1, .null), (.iconst 3, 1, .int 3)] (pc' := 114) (L' := [some (.ref (B 0)), some (.int (nI t)), some (.int xd), some (.int xc), some (.int xa), some (.int xw), none]) (st' := [.int 3, .ref (B 0)]) (by decide +kernel) rfl ?_
                          refine V.callV (As := [.int 3]) (st := []) hG hF k_RX4_86 (by decide +kernel) (c_X4_fail hG hM1 3) hM1.2.1 rfl rfl ⟨by rw [hRm]; decide, by rw [hRm]; decide⟩ (Nat.le_of_ble_eq_true rfl) rfl (fun v2 h2 hp => ?_) (fun E h9 hx => hx.elim)
                          obtain ⟨rfl, hM2, hk2⟩ := hp
                          show V G F _ _ _ 117 [some (.ref (B 0)), some (.int (nI t)), some (.int xd), some (.int xc), some (.int xa), some (.int xw), none] [.int 0] h2
                          exact V.reti hF (by decide +kernel) (Or.inr (Or.inr (Or.inl ⟨w1, w2, fun q => pz xw pw hpw epw cc q.2.2.2, ⟨_, rfl⟩, _, _, _, hR, hM2, hk1.tr hk2⟩)))
                · skip
                  refine V.run hF [(.aload_n 0, 1, .null), (.iconst 2, 1, .int 2)] (pc' := 72) (L' := [some (.ref (B 0)), some (.int v), some (.int xd), some (.int xc), some (.int xa), some (.int xw), none]) (st' := [.int 2, .ref (B 0)]) (by decide +kernel) rfl ?_
                  refine V.callV (As := [.int 2]) (st := []) hG hF k_RX4_86 (by decide +kernel) (c_X4_fail hG hM1 2) hM1.2.1 rfl rfl ⟨by rw [hRm]; decide, by rw [hRm]; decide⟩ (Nat.le_of_ble_eq_true rfl) rfl (fun v2 h2 hp => ?_) (fun E h9 hx => hx.elim)
                  obtain ⟨rfl, hM2, hk2⟩ := hp
                  show V G F _ _ _ 75 [some (.ref (B 0)), some (.int v), some (.int xd), some (.int xc), some (.int xa), some (.int xw), none] [.int 0] h2
                  exact V.reti hF (by decide +kernel) (Or.inr (Or.inl ⟨w1, fun q => tf_0 c8 q.2, ⟨_, rfl⟩, _, _, _, hR, hM2, hk1.tr hk2⟩))
        · skip
          refine V.run hF [(.aload_n 0, 1, .null), (.iconst 1, 1, .int 1)] (pc' := 37) (L' := [some (.ref (B 0)), some (.int v), some (.int xd), some (.int xc), some (.int xa), some (.int xw), none]) (st' := [.int 1, .ref (B 0)]) (by decide +kernel) rfl ?_
          refine V.callV (As := [.int 1]) (st := []) hG hF k_RX4_86 (by decide +kernel) (c_X4_fail hG hM1 1) hM1.2.1 rfl rfl ⟨by rw [hRm]; decide, by rw [hRm]; decide⟩ (Nat.le_of_ble_eq_true rfl) rfl (fun v2 h2 hp => ?_) (fun E h9 hx => hx.elim)
          obtain ⟨rfl, hM2, hk2⟩ := hp
          show V G F _ _ _ 40 [some (.ref (B 0)), some (.int v), some (.int xd), some (.int xc), some (.int xa), some (.int xw), none] [.int 0] h2
          exact V.reti hF (by decide +kernel) (Or.inl ⟨fun q => tf_0 c4 q.2.2.2, ⟨_, rfl⟩, _, _, _, hR, hM2, hk1.tr hk2⟩)
end Mz