/-! ===== TallyWaxModel: deny ===== -/
section Ne
variable {G : Gt} {h h' : Hp} {B : Nat → Nat} {σ : Sg} {x : Int32} {u : Mu} {md hs : Nat → Int32}
set_option maxHeartbeats 4000000 in
theorem c_X4_deny (hG : GOk G) (hM : MO h B σ x u md hs) (hR : RM σ u) (v z : Int32) : Ct G yX4_deny (.code yX4_deny cX4_deny 4 (some .int)) 3 82 0 0 [.ref (B 0), .int v, .int z] h (fun v' h' => (¬ inL σ v z ∧ anyI v' ∧ MS h h' B σ 1) ∨ (inL σ v z ∧ ¬ dy2 σ v z ∧ anyI v' ∧ MS h h' B σ 2) ∨ (inL σ v z ∧ dy2 σ v z ∧ ∃ t l, t < gT σ ∧ l < gn σ t ∧ v = nI t ∧ z = nI l ∧ v' = some (.int (gM σ t l)) ∧ MS h h' B (sDeny σ t l) 0)) pxN := by
  refine Ct.of (by decide +kernel) (Nat.le_of_ble_eq_true rfl) fun F hF hT hN hRm => ?_
  have h8 := hR.1
  refine V.run hF [(.aload_n 0, 1, .null), (.iconst 0, 1, .int 0)] (pc' := 2) (L' := [some (.ref (B 0)), some (.int v), some (.int z), none]) (st' := [.int 0, .ref (B 0)]) (by decide +kernel) rfl ?_
  refine V.putf hG hF k_RX4_36 (by decide +kernel) hM.2.1 (fun C T N hc => by cases hc; exact ⟨rfl, .int, by decide +kernel, rfl, rfl⟩) (Nat.le_of_ble_eq_true rfl) ?_
  obtain ⟨h_1, gh1⟩ : ∃ z : Hp, z = hset h (B 0) (.inr (4, [.int 0, .int (uth u), .int (nI (gT σ)), .ref (B 1), .ref (B 2), .ref (B 3), .ref (B 4), .ref (B 5), .int (nI (gy σ)), .int (gme σ), .int (gde σ), .ref (B 6), .ref (B 7)])) := ⟨_, rfl⟩
  refine V.hp gh1 ?_
  have gk1 : ∀ q : Nat, q ≠ (B 0) → h_1 q = h q := fun q hq => by rw [gh1]; exact hset_ne hq
  have gs1 : h_1 (B 0) = some (.inr (4, [.int 0, .int (uth u), .int (nI (gT σ)), .ref (B 1), .ref (B 2), .ref (B 3), .ref (B 4), .ref (B 5), .int (nI (gy σ)), .int (gme σ), .int (gde σ), .ref (B 6), .ref (B 7)])) := by rw [gh1]; exact hset_eq
  have hM1 := hM.th gs1 (fun q hq => gk1 q hq)
  have hk1 : kpB h h_1 B := kpB.one (i := 0) (by omega) (fun q hq => gk1 q hq)
  obtain ⟨h1, eh1⟩ : ∃ z, z = h_1 := ⟨_, rfl⟩
  rw [← eh1] at hM1 hk1 ⊢
  refine V.run hF [(.aload_n 0, 1, .null), (.iload_n 1, 1, .null), (.iload_n 2, 1, .null)] (pc' := 8) (L' := [some (.ref (B 0)), some (.int v), some (.int z), none]) (st' := [.int z, .int v, .ref (B 0)]) (by decide +kernel) rfl ?_
  refine V.callV (As := [.int v, .int z]) (st := []) hG hF k_RX4_93 (by decide +kernel) (c_X4_isLine hG hM1 hR v z) hM1.2.1 rfl rfl ⟨by rw [hRm]; decide, by rw [hRm]; decide⟩ (Nat.le_of_ble_eq_true rfl) rfl (fun v h_2 gp2 => ?_) (fun E h9 hx => hx.elim)
  obtain ⟨rfl, he_gp2⟩ := gp2
  rw [he_gp2]
  show V G F _ _ _ 11 [some (.ref (B 0)), some (.int v), some (.int z), none] [.int (tf (inL σ v z))] h1
  refine V.if_ne hF (off := 9) (tgt := 20) (by decide +kernel) (by decide) (fun c1 => ?_) (fun c1 => ?_)
  · have w1 := tf_1 c1
    obtain ⟨t, l, ht, hl, rfl, rfl⟩ := (inL_iff hR.1 (fun t ht => (hR.mn ht).2.2)).mp w1
    have e12 := (hR.mn ht).2.2
    have et : (nI t).toNatClampNeg = t := nI_clamp (by omega)
    have el : (nI l).toNatClampNeg = l := nI_clamp (by omega)
    obtain ⟨-, -, -, -, -, -, rD, -, rW, -⟩ := hR.row ht hl
    obtain ⟨pw, hpw, epw⟩ := inP_of rW
    obtain ⟨pd, hpd, epd⟩ := inP_of rD
    have cI : ∀ y q, q < 8 → y = nI q → Ct G yX4_is (.code yX4_is cX4_is 2 (some .boolean)) 0 0 0 0 [.ref (B 0), .int y] h1 (is_i (gth σ q) h1) pxN := fun y q hq e => by
      rw [e]
      exact c_X4_is hG hM1 hR hq
    have pI : ∀ y q, q < 8 → y = nI q → (prs σ y ↔ ¬ gth σ q = 0) := fun y q hq e => by
      rw [e, prs, nI_clamp (by omega)]
      exact ⟨fun k => k.2, fun k => ⟨inP_nI hq, k⟩⟩
    have dI : dy2 σ (nI t) (nI l) ↔ gth σ pw = 0 ∧ ¬ gth σ pd = 0 := by
      rw [dy2, et, el, pI _ pw hpw epw, pI _ pd hpd epd, Classical.not_not]
    refine V.run hF [(.aload_n 0, 1, .null), (.aload_n 0, 1, .null), (.iload_n 1, 1, .null), (.iload_n 2, 1, .null), (.iconst 3, 1, .int 3)] (pc' := 25) (L' := [some (.ref (B 0)), some (.int (nI t)), some (.int (nI l)), none]) (st' := [.int 3, .int (nI l), .int (nI t), .ref (B 0), .ref (B 0)]) (by decide +kernel) rfl ?_
    refine V.callV (As := [.int (nI t), .int (nI l), .int 3]) (st := [.ref (B 0)]) hG hF k_RX4_60 (by decide +kernel) (c_X4_ofW hG hM1 hR ht hl) hM1.2.1 rfl rfl ⟨by rw [hRm]; decide, by rw [hRm]; decide⟩ (Nat.le_of_ble_eq_true rfl) rfl (fun v h_3 gp3 => ?_) (fun E h9 hx => hx.elim)
    obtain ⟨rfl, he_gp3⟩ := gp3
    rw [he_gp3]
    show V G F _ _ _ 28 [some (.ref (B 0)), some (.int (nI t)), some (.int (nI l)), none] [.int (gW σ t l), .ref (B 0)] h1
    refine V.callV (As := [.int (gW σ t l)]) (st := []) hG hF k_RX4_64 (by decide +kernel) (cI (gW σ t l) pw hpw epw) hM1.2.1 rfl rfl ⟨by rw [hRm]; decide, by rw [hRm]; decide⟩ (Nat.le_of_ble_eq_true rfl) rfl (fun v h_4 gp4 => ?_) (fun E h9 hx => hx.elim)
    obtain ⟨rfl, he_gp4⟩ := gp4
    rw [he_gp4]
    show V G F _ _ _ 31 [some (.ref (B 0)), some (.int (nI t)), some (.int (nI l)), none] [.int (gth σ pw)] h1
    refine V.if_ne hF (off := 17) (tgt := 48) (by decide +kernel) (by decide) (fun c2 => ?_) (fun c2 => ?_)
    · skip
      refine V.run hF [(.aload_n 0, 1, .null), (.iconst 2, 1, .int 2)] (pc' := 50) (L' := [some (.ref (B 0)), some (.int (nI t)), some (.int (nI l)), none]) (st' := [.int 2, .ref (B 0)]) (by decide +kernel) rfl ?_
      refine V.callV (As := [.int 2]) (st := []) hG hF k_RX4_86 (by decide +kernel) (c_X4_fail hG hM1 2) hM1.2.1 rfl rfl ⟨by rw [hRm]; decide, by rw [hRm]; decide⟩ (Nat.le_of_ble_eq_true rfl) rfl (fun v2 h2 hp => ?_) (fun E h9 hx => hx.elim)
      obtain ⟨rfl, hM2, hk2⟩ := hp
      show V G F _ _ _ 53 [some (.ref (B 0)), some (.int (nI t)), some (.int (nI l)), none] [.int 0] h2
      exact V.reti hF (by decide +kernel) (Or.inr (Or.inl ⟨w1, fun k => c2 (dI.mp k).1, ⟨_, rfl⟩, _, _, _, hR, hM2, hk1.tr hk2⟩))
    · skip
      have c2 : gth σ pw = 0 := Classical.not_not.mp (fun k => k c2)
      refine V.run hF [(.aload_n 0, 1, .null), (.aload_n 0, 1, .null), (.iload_n 1, 1, .null), (.iload_n 2, 1, .null), (.iconst 0, 1, .int 0)] (pc' := 39) (L' := [some (.ref (B 0)), some (.int (nI t)), some (.int (nI l)), none]) (st' := [.int 0, .int (nI l), .int (nI t), .ref (B 0), .ref (B 0)]) (by decide +kernel) rfl ?_
      refine V.callV (As := [.int (nI t), .int (nI l), .int 0]) (st := [.ref (B 0)]) hG hF k_RX4_60 (by decide +kernel) (c_X4_ofD hG hM1 hR ht hl) hM1.2.1 rfl rfl ⟨by rw [hRm]; decide, by rw [hRm]; decide⟩ (Nat.le_of_ble_eq_true rfl) rfl (fun v h_6 gp6 => ?_) (fun E h9 hx => hx.elim)
      obtain ⟨rfl, he_gp6⟩ := gp6
      rw [he_gp6]
      show V G F _ _ _ 42 [some (.ref (B 0)), some (.int (nI t)), some (.int (nI l)), none] [.int (gDD σ t l), .ref (B 0)] h1
      refine V.callV (As := [.int (gDD σ t l)]) (st := []) hG hF k_RX4_64 (by decide +kernel) (cI (gDD σ t l) pd hpd epd) hM1.2.1 rfl rfl ⟨by rw [hRm]; decide, by rw [hRm]; decide⟩ (Nat.le_of_ble_eq_true rfl) rfl (fun v h_7 gp7 => ?_) (fun E h9 hx => hx.elim)
      obtain ⟨rfl, he_gp7⟩ := gp7
      rw [he_gp7]
      show V G F _ _ _ 45 [some (.ref (B 0)), some (.int (nI t)), some (.int (nI l)), none] [.int (gth σ pd)] h1
      refine V.if_ne hF (off := 9) (tgt := 54) (by decide +kernel) (by decide) (fun c3 => ?_) (fun c3 => ?_)
      · skip
        refine V.run hF [(.aload_n 0, 1, .null), (.iload_n 1, 1, .null), (.iload_n 2, 1, .null), (.iconst 2, 1, .int 2)] (pc' := 58) (L' := [some (.ref (B 0)), some (.int (nI t)), some (.int (nI l)), none]) (st' := [.int 2, .int (nI l), .int (nI t), .ref (B 0)]) (by decide +kernel) rfl ?_
        refine V.callV (As := [.int (nI t), .int (nI l), .int 2]) (st := []) hG hF k_RX4_60 (by decide +kernel) (c_X4_ofM hG hM1 hR ht hl) hM1.2.1 rfl rfl ⟨by rw [hRm]; decide, by rw [hRm]; decide⟩ (Nat.le_of_ble_eq_true rfl) rfl (fun v h_8 gp8 => ?_) (fun E h9 hx => hx.elim)
        obtain ⟨rfl, he_gp8⟩ := gp8
        rw [he_gp8]
        show V G F _ _ _ 61 [some (.ref (B 0)), some (.int (nI t)), some (.int (nI l)), none] [.int (gM σ t l)] h1
        refine V.run hF [(.istore_n 3, 1, .null), (.aload_n 0, 1, .null), (.dup, 1, .null)] (pc' := 64) (L' := [some (.ref (B 0)), some (.int (nI t)), some (.int (nI l)), some (.int (gM σ t l))]) (st' := [.ref (B 0), .ref (B 0)]) (by decide +kernel) rfl ?_
        refine V.getf hG hF k_RX4_101 (by decide +kernel) hM1.2.1 rfl ?_
        refine V.run hF [(.iload_n 3, 1, .null), (.iadd, 1, .null)] (pc' := 69) (L' := [some (.ref (B 0)), some (.int (nI t)), some (.int (nI l)), some (.int (gM σ t l))]) (st' := [.int (gde σ + gM σ t l), .ref (B 0)]) (by decide +kernel) rfl ?_
        refine V.putf hG hF k_RX4_101 (by decide +kernel) hM1.2.1 (fun C T N hc => by cases hc; exact ⟨rfl, .int, by decide +kernel, rfl, rfl⟩) (Nat.le_of_ble_eq_true rfl) ?_
        obtain ⟨h_9, gh9⟩ : ∃ z : Hp, z = hset h1 (B 0) (.inr (4, [.int 0, .int (uth u), .int (nI (gT σ)), .ref (B 1), .ref (B 2), .ref (B 3), .ref (B 4), .ref (B 5), .int (nI (gy σ)), .int (gme σ), .int (gde σ + gM σ t l), .ref (B 6), .ref (B 7)])) := ⟨_, rfl⟩
        refine V.hp gh9 ?_
        have gk9 : ∀ q : Nat, q ≠ (B 0) → h_9 q = h1 q := fun q hq => by rw [gh9]; exact hset_ne hq
        have gs9 : h_9 (B 0) = some (.inr (4, [.int 0, .int (uth u), .int (nI (gT σ)), .ref (B 1), .ref (B 2), .ref (B 3), .ref (B 4), .ref (B 5), .int (nI (gy σ)), .int (gme σ), .int (gde σ + gM σ t l), .ref (B 6), .ref (B 7)])) := by rw [gh9]; exact hset_eq
        have hM2 := hM1.c0 (σ' := sYmd σ (gy σ) (gme σ) (gde σ + gM σ t l)) (th := uth u) (y := 0) gs9 (fun q hq => gk9 q hq)
        have hk2 := hk1.tr (kpB.one (i := 0) (by omega) (fun q hq => gk9 q hq))
        refine V.run hF [(.aload_n 0, 1, .null), (.iload_n 1, 1, .null), (.iload_n 2, 1, .null)] (pc' := 75) (L' := [some (.ref (B 0)), some (.int (nI t)), some (.int (nI l)), some (.int (gM σ t l))]) (st' := [.int (nI l), .int (nI t), .ref (B 0)]) (by decide +kernel) rfl ?_
        refine V.callV (As := [.int (nI t), .int (nI l)]) (st := []) hG hF k_RX4_97 (by decide +kernel) (c_X4_remove hG hM2 (show RM (sYmd σ (gy σ) (gme σ) (gde σ + gM σ t l)) u from hR) ht hl) gs9 rfl rfl ⟨by rw [hRm]; decide, by rw [hRm]; decide⟩ (Nat.le_of_ble_eq_true rfl) rfl (fun v2 h2 hp => ?_) (fun E h9 hx => hx.elim)
        obtain ⟨hv, u2, hR2, hM3, hk3⟩ := hp
        rw [hv]
        show V G F _ _ _ 78 [some (.ref (B 0)), some (.int (nI t)), some (.int (nI l)), some (.int (gM σ t l))] [] h2
        refine V.run hF [(.iload_n 3, 1, .null)] (pc' := 79) (L' := [some (.ref (B 0)), some (.int (nI t)), some (.int (nI l)), some (.int (gM σ t l))]) (st' := [.int (gM σ t l)]) (by decide +kernel) rfl ?_
        exact V.reti hF (by decide +kernel) (Or.inr (Or.inr ⟨w1, dI.mpr ⟨c2, c3⟩, t, l, ht, hl, rfl, rfl, rfl, u2, _, _, hR2, hM3, hk2.tr hk3⟩))
      · skip
        refine V.run hF [(.aload_n 0, 1, .null), (.iconst 2, 1, .int 2)] (pc' := 50) (L' := [some (.ref (B 0)), some (.int (nI t)), some (.int (nI l)), none]) (st' := [.int 2, .ref (B 0)]) (by decide +kernel) rfl ?_
        refine V.callV (As := [.int 2]) (st := []) hG hF k_RX4_86 (by decide +kernel) (c_X4_fail hG hM1 2) hM1.2.1 rfl rfl ⟨by rw [hRm]; decide, by rw [hRm]; decide⟩ (Nat.le_of_ble_eq_true rfl) rfl (fun v2 h2 hp => ?_) (fun E h9 hx => hx.elim)
        obtain ⟨rfl, hM2, hk2⟩ := hp
        show V G F _ _ _ 53 [some (.ref (B 0)), some (.int (nI t)), some (.int (nI l)), none] [.int 0] h2
        exact V.reti hF (by decide +kernel) (Or.inr (Or.inl ⟨w1, fun k => (dI.mp k).2 c3, ⟨_, rfl⟩, _, _, _, hR, hM2, hk1.tr hk2⟩))
  · skip
    refine V.run hF [(.aload_n 0, 1, .null), (.iconst 1, 1, .int 1)] (pc' := 16) (L' := [some (.ref (B 0)), some (.int v), some (.int z), none]) (st' := [.int 1, .ref (B 0)]) (by decide +kernel) rfl ?_
    refine V.callV (As := [.int 1]) (st := []) hG hF k_RX4_86 (by decide +kernel) (c_X4_fail hG hM1 1) hM1.2.1 rfl rfl ⟨by rw [hRm]; decide, by rw [hRm]; decide⟩ (Nat.le_of_ble_eq_true rfl) rfl (fun v2 h2 hp => ?_) (fun E h9 hx => hx.elim)
    obtain ⟨rfl, hM2, hk2⟩ := hp
    show V G F _ _ _ 19 [some (.ref (B 0)), some (.int v), some (.int z), none] [.int 0] h2
    exact V.reti hF (by decide +kernel) (Or.inl ⟨tf_0 c1, ⟨_, rfl⟩, _, _, _, hR, hM2, hk1.tr hk2⟩)
end Ne