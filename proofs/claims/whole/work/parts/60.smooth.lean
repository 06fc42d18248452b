/-! ===== TallyWaxModel: smooth ===== -/
/-- the lines that smoothing makes are lines -/
abbrev PLQ (σ : Sg) : Prop := ∀ t, t < gT σ → ∀ g md, (∀ p, p < 8 → g p = gbal σ t p) → ∀ r, r = pl (gth σ) 8 (mPS g md 0) → pn r.2 ≤ 8 ∧ rowsOK (pD r.2) (pC r.2) (pW r.2) (pn r.2)
section Ni
variable {G : Gt} {h h' : Hp} {B : Nat → Nat} {σ : Sg} {x : Int32} {u : Mu} {md hs : Nat → Int32}
set_option maxHeartbeats 4000000 in
theorem c_X4_smooth (hG : GOk G) (hM : MO h B σ x u md hs) (hR : RM σ u) (hE : PEA σ) (hQ : PLQ σ) (v : Int32) : Ct G yX4_smooth (.code yX4_smooth cX4_smooth 3 (some .int)) 4 92 0 0 [.ref (B 0), .int v] h (fun v' h' => (¬ inT σ v ∧ anyI v' ∧ MS h h' B σ 1) ∨ (∃ t g r, t < gT σ ∧ v = nI t ∧ (∀ p, p < 8 → g p = gbal σ t p) ∧ r = pl (gth σ) 8 (mPS g md 0) ∧ ((¬ r.1 = true ∧ anyI v' ∧ MS h h' B σ 2) ∨ (r.1 = true ∧ v' = some (.int (nI (pn r.2))) ∧ MS h h' B (sTab σ t (gha σ t) (gce σ t) (pn r.2) (pD r.2) (pC r.2) (pM r.2) (pW r.2)) 0)))) pxN := by
  refine Ct.of (by decide +kernel) (Nat.le_of_ble_eq_true rfl) fun F hF hT hN hRm => ?_
  have h8 := hR.1
  refine V.run hF [(.aload_n 0, 1, .null), (.iconst 0, 1, .int 0)] (pc' := 2) (L' := [some (.ref (B 0)), some (.int v), none]) (st' := [.int 0, .ref (B 0)]) (by decide +kernel) rfl ?_
  refine V.putf hG hF k_RX4_36 (by decide +kernel) hM.2.1 (fun C T N hc => by cases hc; exact ⟨rfl, .int, by decide +kernel, rfl, rfl⟩) (Nat.le_of_ble_eq_true rfl) ?_
  obtain ⟨h_1, gh1⟩ : ∃ z : Hp, z = hset h (B 0) (.inr (4, [.int 0, .int (uth u), .int (nI (gT σ)), .ref (B 1), .ref (B 2), .ref (B 3), .ref (B 4), .ref (B 5), .int (nI (gy σ)), .int (gme σ), .int (gde σ), .ref (B 6), .ref (B 7)])) := ⟨_, rfl⟩
  refine V.hp gh1 ?_
  have gk1 : ∀ q : Nat, q ≠ (B 0) → h_1 q = h q := fun q hq => by rw [gh1]; exact hset_ne hq
  have gs1 : h_1 (B 0) = some (.inr (4, [.int 0, .int (uth u), .int (nI (gT σ)), .ref (B 1), .ref (B 2), .ref (B 3), .ref (B 4), .ref (B 5), .int (nI (gy σ)), .int (gme σ), .int (gde σ), .ref (B 6), .ref (B 7)])) := by rw [gh1]; exact hset_eq
  have hM1 := hM.th gs1 (fun q hq => gk1 q hq)
  have hk1 : kpB h h_1 B := kpB.one (i := 0) (by omega) (fun q hq => gk1 q hq)
  obtain ⟨h1, eh1⟩ : ∃ z, z = h_1 := ⟨_, rfl⟩
  rw [← eh1] at hM1 hk1 ⊢
  refine V.run hF [(.aload_n 0, 1, .null), (.iload_n 1, 1, .null)] (pc' := 7) (L' := [some (.ref (B 0)), some (.int v), none]) (st' := [.int v, .ref (B 0)]) (by decide +kernel) rfl ?_
  refine V.callV (As := [.int v]) (st := []) hG hF k_RX4_46 (by decide +kernel) (c_X4_isTablet hG hM1 hR.1 v) hM1.2.1 rfl rfl ⟨by rw [hRm]; decide, by rw [hRm]; decide⟩ (Nat.le_of_ble_eq_true rfl) rfl (fun v h_2 gp2 => ?_) (fun E h9 hx => hx.elim)
  obtain ⟨rfl, he_gp2⟩ := gp2
  rw [he_gp2]
  show V G F _ _ _ 10 [some (.ref (B 0)), some (.int v), none] [.int (tf (inT σ v))] h1
  refine V.if_ne hF (off := 9) (tgt := 19) (by decide +kernel) (by decide) (fun c1 => ?_) (fun c1 => ?_)
  · obtain ⟨t, ht, rfl⟩ := (inT_iff hR.1).mp (tf_1 c1)
    refine V.run hF [(.aload_n 0, 1, .null), (.iload_n 1, 1, .null)] (pc' := 21) (L' := [some (.ref (B 0)), some (.int (nI t)), none]) (st' := [.int (nI t), .ref (B 0)]) (by decide +kernel) rfl ?_
    refine V.callV (As := [.int (nI t)]) (st := []) hG hF k_RX4_104 (by decide +kernel) (c_X4_smoothed hG hM1 hR ht (hE t ht)) hM1.2.1 rfl rfl ⟨by rw [hRm]; decide, by rw [hRm]; decide⟩ (Nat.le_of_ble_eq_true rfl) rfl (fun v2 h2 hp => ?_) (fun E h9 hx => hx.elim)
    obtain ⟨g, hg, rfl, md2, hs2, er, hM2, hk2⟩ := hp
    obtain ⟨r, hr⟩ : ∃ r, r = pl (gth σ) 8 (mPS g md 0) := ⟨_, rfl⟩
    rw [← hr] at er ⊢
    obtain ⟨n8, rok⟩ := hQ t ht g md hg r hr
    have n04 : B 0 ≠ B 4 := hM.1.ne (by omega) (by omega) (by omega)
    show V G F _ _ _ 24 [some (.ref (B 0)), some (.int (nI t)), none] [.int (lfv r)] h2
    by_cases q : r.1 = true
    · have el : lfv r = nI (pn r.2) := if_pos q
      rw [el]
      refine V.run hF [(.istore_n 2, 1, .null), (.iload_n 2, 1, .null), (.iconst (-1), 1, .int (-1))] (pc' := 27) (L' := [some (.ref (B 0)), some (.int (nI t)), some (.int (nI (pn r.2)))]) (st' := [.int (-1), .int (nI (pn r.2))]) (by decide +kernel) rfl ?_
      refine V.icmp_ne hF (off := 9) (tgt := 36) (by decide +kernel) (by decide) (fun c2 => ?_) (fun c2 => ?_)
      · skip
        refine V.run hF [(.aload_n 0, 1, .null)] (pc' := 37) (L' := [some (.ref (B 0)), some (.int (nI t)), some (.int (nI (pn r.2)))]) (st' := [.ref (B 0)]) (by decide +kernel) rfl ?_
        refine V.getf hG hF k_RX4_30 (by decide +kernel) hM2.2.1 rfl ?_
        refine V.run hF [(.iconst 0, 1, .int (nI 0)), (.aload_n 0, 1, .null)] (pc' := 42) (L' := [some (.ref (B 0)), some (.int (nI t)), some (.int (nI (pn r.2)))]) (st' := [.ref (B 0), .int (nI 0), .ref (B 6)]) (by decide +kernel) rfl ?_
        refine V.getf hG hF k_RX4_24 (by decide +kernel) hM2.2.1 rfl ?_
        refine V.run hF [(.iload_n 1, 1, .null), (.iconst 0, 1, .int (nI 0))] (pc' := 47) (L' := [some (.ref (B 0)), some (.int (nI t)), some (.int (nI (pn r.2)))]) (st' := [.int (nI 0), .int (nI t), .ref (B 4), .int (nI 0), .ref (B 6)]) (by decide +kernel) rfl ?_
        refine V.callS (As := [.int (nI t), .int (nI 0)]) (st := [.ref (B 4), .int (nI 0), .ref (B 6)]) hG hF k_RX4_50 (by decide +kernel) (c_X4_at t 0) rfl ⟨by rw [hRm]; decide, by rw [hRm]; decide⟩ (Nat.le_of_ble_eq_true rfl) rfl (fun v h_4 gp4 => ?_) (fun E h9 hx => hx.elim)
        obtain ⟨rfl, he_gp4⟩ := gp4
        rw [he_gp4]
        show V G F _ _ _ 50 [some (.ref (B 0)), some (.int (nI t)), some (.int (nI (pn r.2)))] [.int (nI (48 * t + 4 * 0)), .ref (B 4), .int (nI 0), .ref (B 6)] h2
        refine V.run hF [(.iconst 4, 1, .int (nI 4)), (.iload_n 2, 1, .null), (.imul, 1, .null)] (pc' := 53) (L' := [some (.ref (B 0)), some (.int (nI t)), some (.int (nI (pn r.2)))]) (st' := [.int (nI 4 * nI (pn r.2)), .int (nI (48 * t + 4 * 0)), .ref (B 4), .int (nI 0), .ref (B 6)]) (by decide +kernel) rfl ?_
        rw [pk_mul]
        refine V.acopy hG hF tw_ac1 tw_ac2 tw_ac3 tw_ac4 (by decide +kernel) hM2.2.2.2.2.2.2.2.1 hM2.2.2.2.2.2.1 (by omega) (by omega) (by decide) (by decide) (by rw [hRm]; decide +kernel) ?_
        obtain ⟨h9, gh9⟩ : ∃ z : Hp, z = hset h2 (B 4) (.inl (0, 384, .inl (va_cpy md2 (uli u) 0 (48 * t + 4 * 0) (4 * pn r.2)))) := ⟨_, rfl⟩
        refine V.hp gh9 ?_
        have k9 : ∀ q : Nat, q ≠ B 4 → h9 q = h2 q := fun q hq => by rw [gh9]; exact hset_ne hq
        have hM3 := hM2.c4 (show h9 (B 4) = _ by rw [gh9]; exact hset_eq) k9
        have hk3 := (hk1.tr hk2).tr (kpB.one (i := 4) (by omega) k9)
        refine V.run hF [(.aload_n 0, 1, .null)] (pc' := 57) (L' := [some (.ref (B 0)), some (.int (nI t)), some (.int (nI (pn r.2)))]) (st' := [.ref (B 0)]) (by decide +kernel) rfl ?_
        refine V.getf hG hF k_RX4_21 (by decide +kernel) hM3.2.1 rfl ?_
        refine V.run hF [(.iload_n 1, 1, .null), (.iload_n 2, 1, .null)] (pc' := 62) (L' := [some (.ref (B 0)), some (.int (nI t)), some (.int (nI (pn r.2)))]) (st' := [.int (nI (pn r.2)), .int (nI t), .ref (B 3)]) (by decide +kernel) rfl ?_
        refine V.iastN (j := t) hG hF (by decide +kernel) hM3.2.2.2.2.1 (by omega) (by decide) ?_
        obtain ⟨h_5, gh5⟩ : ∃ z : Hp, z = hset h9 (B 3) (.inl (0, 8, .inl (upd (umn u) t (nI (pn r.2))))) := ⟨_, rfl⟩
        refine V.hp gh5 ?_
        have gk5 : ∀ q : Nat, q ≠ (B 3) → h_5 q = h9 q := fun q hq => by rw [gh5]; exact hset_ne hq
        have gs5 : h_5 (B 3) = some (.inl (0, 8, .inl (upd (umn u) t (nI (pn r.2))))) := by rw [gh5]; exact hset_eq
        have hM4 := hM3.c3 gs5 (fun q hq => gk5 q hq)
        have hk4 := hk3.tr (kpB.one (i := 3) (by omega) (fun q hq => gk5 q hq))
        refine V.run hF [(.iload_n 2, 1, .null)] (pc' := 64) (L' := [some (.ref (B 0)), some (.int (nI t)), some (.int (nI (pn r.2)))]) (st' := [.int (nI (pn r.2))]) (by decide +kernel) rfl ?_
        have hR4 := hR.lay ht (n := pn r.2) (by omega) (md := md2) (D := pD r.2) (C := pC r.2) (M := pM r.2) (W := pW r.2) (fun j hj => by rw [er]; exact ⟨rfl, rfl, rfl, rfl⟩) rok
        exact V.reti hF (by decide +kernel) (Or.inr ⟨t, g, r, ht, rfl, hg, hr, Or.inr ⟨q, rfl, _, _, _, hR4, hM4, hk4⟩⟩)
      · skip
        exact absurd (show nI (pn r.2) < 0 by rw [c2]; decide) (nI_pos (by omega))
    · have el : lfv r = -1 := if_neg q
      rw [el]
      refine V.run hF [(.istore_n 2, 1, .null), (.iload_n 2, 1, .null), (.iconst (-1), 1, .int (-1))] (pc' := 27) (L' := [some (.ref (B 0)), some (.int (nI t)), some (.int (-1))]) (st' := [.int (-1), .int (-1)]) (by decide +kernel) rfl ?_
      refine V.icmp_ne hF (off := 9) (tgt := 36) (by decide +kernel) (by decide) (fun c2 => ?_) (fun c2 => ?_)
      · exact absurd rfl c2
      · skip
        refine V.run hF [(.aload_n 0, 1, .null), (.iconst 2, 1, .int 2)] (pc' := 32) (L' := [some (.ref (B 0)), some (.int (nI t)), some (.int (-1))]) (st' := [.int 2, .ref (B 0)]) (by decide +kernel) rfl ?_
        refine V.callV (As := [.int 2]) (st := []) hG hF k_RX4_86 (by decide +kernel) (c_X4_fail hG hM2 2) hM2.2.1 rfl rfl ⟨by rw [hRm]; decide, by rw [hRm]; decide⟩ (Nat.le_of_ble_eq_true rfl) rfl (fun v3 h3 hp => ?_) (fun E h9 hx => hx.elim)
        obtain ⟨rfl, hM3, hk3⟩ := hp
        show V G F _ _ _ 35 [some (.ref (B 0)), some (.int (nI t)), some (.int (-1))] [.int 0] h3
        exact V.reti hF (by decide +kernel) (Or.inr ⟨t, g, r, ht, rfl, hg, hr, Or.inl ⟨q, ⟨_, rfl⟩, _, _, _, hR, hM3, (hk1.tr hk2).tr hk3⟩⟩)
  · skip
    refine V.run hF [(.aload_n 0, 1, .null), (.iconst 1, 1, .int 1)] (pc' := 15) (L' := [some (.ref (B 0)), some (.int v), none]) (st' := [.int 1, .ref (B 0)]) (by decide +kernel) rfl ?_
    refine V.callV (As := [.int 1]) (st := []) hG hF k_RX4_86 (by decide +kernel) (c_X4_fail hG hM1 1) hM1.2.1 rfl rfl ⟨by rw [hRm]; decide, by rw [hRm]; decide⟩ (Nat.le_of_ble_eq_true rfl) rfl (fun v2 h2 hp => ?_) (fun E h9 hx => hx.elim)
    obtain ⟨rfl, hM2, hk2⟩ := hp
    show V G F _ _ _ 18 [some (.ref (B 0)), some (.int v), none] [.int 0] h2
    exact V.reti hF (by decide +kernel) (Or.inl ⟨tf_0 c1, ⟨_, rfl⟩, _, _, _, hR, hM2, hk1.tr hk2⟩)
end Ni