/-! ===== TallyWaxModel: pay ===== -/
section Ng
variable {G : Gt} {h h' : Hp} {B : Nat → Nat} {σ : Sg} {x : Int32} {u : Mu} {md hs : Nat → Int32}
set_option maxHeartbeats 4000000 in
theorem c_X4_pay (hG : GOk G) (hM : MO h B σ x u md hs) (hR : RM σ u) (hP : ∀ t l, t < gT σ → l < gn σ t → ¬ gM σ t l < 0) (v z xa : Int32) : Ct G yX4_pay (.code yX4_pay cX4_pay 5 (some .int)) 3 83 0 0 [.ref (B 0), .int v, .int z, .int xa] h (fun v' h' => (¬ inL σ v z ∧ anyI v' ∧ MS h h' B σ 1) ∨ (inL σ v z ∧ ¬ py2 σ v z xa ∧ anyI v' ∧ MS h h' B σ 2) ∨ (inL σ v z ∧ py2 σ v z xa ∧ ∃ t l, t < gT σ ∧ l < gn σ t ∧ v = nI t ∧ z = nI l ∧ v' = some (.int (gM σ t l - xa)) ∧ MS h h' B (sPay σ t l xa) 0)) pxN := by
  refine Ct.of (by decide +kernel) (Nat.le_of_ble_eq_true rfl) fun F hF hT hN hRm => ?_
  have h8 := hR.1
  refine V.run hF [(.aload_n 0, 1, .null), (.iconst 0, 1, .int 0)] (pc' := 2) (L' := [some (.ref (B 0)), some (.int v), some (.int z), some (.int xa), none]) (st' := [.int 0, .ref (B 0)]) (by decide +kernel) rfl ?_
  refine V.putf hG hF k_RX4_36 (by decide +kernel) hM.2.1 (fun C T N hc => by cases hc; exact ⟨rfl, .int, by decide +kernel, rfl, rfl⟩) (Nat.le_of_ble_eq_true rfl) ?_
  obtain ⟨h_1, gh1⟩ : ∃ z : Hp, z = hset h (B 0) (.inr (4, [.int 0, .int (uth u), .int (nI (gT σ)), .ref (B 1), .ref (B 2), .ref (B 3), .ref (B 4), .ref (B 5), .int (nI (gy σ)), .int (gme σ), .int (gde σ), .ref (B 6), .ref (B 7)])) := ⟨_, rfl⟩
  refine V.hp gh1 ?_
  have gk1 : ∀ q : Nat, q ≠ (B 0) → h_1 q = h q := fun q hq => by rw [gh1]; exact hset_ne hq
  have gs1 : h_1 (B 0) = some (.inr (4, [.int 0, .int (uth u), .int (nI (gT σ)), .ref (B 1), .ref (B 2), .ref (B 3), .ref (B 4), .ref (B 5), .int (nI (gy σ)), .int (gme σ), .int (gde σ), .ref (B 6), .ref (B 7)])) := by rw [gh1]; exact hset_eq
  have hM1 := hM.th gs1 (fun q hq => gk1 q hq)
  have hk1 : kpB h h_1 B := kpB.one (i := 0) (by omega) (fun q hq => gk1 q hq)
  obtain ⟨h1, eh1⟩ : ∃ z, z = h_1 := ⟨_, rfl⟩
  rw [← eh1] at hM1 hk1 ⊢
  refine V.run hF [(.aload_n 0, 1, .null), (.iload_n 1, 1, .null), (.iload_n 2, 1, .null)] (pc' := 8) (L' := [some (.ref (B 0)), some (.int v), some (.int z), some (.int xa), none]) (st' := [.int z, .int v, .ref (B 0)]) (by decide +kernel) rfl ?_
  refine V.callV (As := [.int v, .int z]) (st := []) hG hF k_RX4_93 (by decide +kernel) (c_X4_isLine hG hM1 hR v z) hM1.2.1 rfl rfl ⟨by rw [hRm]; decide, by rw [hRm]; decide⟩ (Nat.le_of_ble_eq_true rfl) rfl (fun v h_2 gp2 => ?_) (fun E h9 hx => hx.elim)
  obtain ⟨rfl, he_gp2⟩ := gp2
  rw [he_gp2]
  show V G F _ _ _ 11 [some (.ref (B 0)), some (.int v), some (.int z), some (.int xa), none] [.int (tf (inL σ v z))] h1
  refine V.if_ne hF (off := 9) (tgt := 20) (by decide +kernel) (by decide) (fun c1 => ?_) (fun c1 => ?_)
  · have w1 := tf_1 c1
    obtain ⟨t, l, ht, hl, rfl, rfl⟩ := (inL_iff hR.1 (fun t ht => (hR.mn ht).2.2)).mp w1
    have e12 := (hR.mn ht).2.2
    have et : (nI t).toNatClampNeg = t := nI_clamp (by omega)
    have el : (nI l).toNatClampNeg = l := nI_clamp (by omega)
    have n04 : B 0 ≠ B 4 := hM.1.ne (by omega) (by omega) (by omega)
    have pI : py2 σ (nI t) (nI l) xa ↔ ¬ xa < 1 ∧ xa ≤ gM σ t l := by
      show (_ ∧ _ ≤ gM σ (nI t).toNatClampNeg (nI l).toNatClampNeg) ↔ _
      rw [et, el]
    refine V.run hF [(.aload_n 0, 1, .null), (.iload_n 1, 1, .null), (.iload_n 2, 1, .null), (.iconst 2, 1, .int 2)] (pc' := 24) (L' := [some (.ref (B 0)), some (.int (nI t)), some (.int (nI l)), some (.int xa), none]) (st' := [.int 2, .int (nI l), .int (nI t), .ref (B 0)]) (by decide +kernel) rfl ?_
    refine V.callV (As := [.int (nI t), .int (nI l), .int 2]) (st := []) hG hF k_RX4_60 (by decide +kernel) (c_X4_ofM hG hM1 hR ht hl) hM1.2.1 rfl rfl ⟨by rw [hRm]; decide, by rw [hRm]; decide⟩ (Nat.le_of_ble_eq_true rfl) rfl (fun v h_3 gp3 => ?_) (fun E h9 hx => hx.elim)
    obtain ⟨rfl, he_gp3⟩ := gp3
    rw [he_gp3]
    show V G F _ _ _ 27 [some (.ref (B 0)), some (.int (nI t)), some (.int (nI l)), some (.int xa), none] [.int (gM σ t l)] h1
    refine V.run hF [(.iload_n 3, 1, .null), (.isub, 1, .null), (.istore 4, 2, .null), (.iload_n 3, 1, .null), (.iconst 1, 1, .int 1)] (pc' := 33) (L' := [some (.ref (B 0)), some (.int (nI t)), some (.int (nI l)), some (.int xa), some (.int (gM σ t l - xa))]) (st' := [.int 1, .int xa]) (by decide +kernel) rfl ?_
    refine V.icmp_lt hF (off := 8) (tgt := 41) (by decide +kernel) (by decide) (fun c2 => ?_) (fun c2 => ?_)
    · skip
      refine V.run hF [(.aload_n 0, 1, .null), (.iconst 2, 1, .int 2)] (pc' := 43) (L' := [some (.ref (B 0)), some (.int (nI t)), some (.int (nI l)), some (.int xa), some (.int (gM σ t l - xa))]) (st' := [.int 2, .ref (B 0)]) (by decide +kernel) rfl ?_
      refine V.callV (As := [.int 2]) (st := []) hG hF k_RX4_86 (by decide +kernel) (c_X4_fail hG hM1 2) hM1.2.1 rfl rfl ⟨by rw [hRm]; decide, by rw [hRm]; decide⟩ (Nat.le_of_ble_eq_true rfl) rfl (fun v2 h2 hp => ?_) (fun E h9 hx => hx.elim)
      obtain ⟨rfl, hM2, hk2⟩ := hp
      show V G F _ _ _ 46 [some (.ref (B 0)), some (.int (nI t)), some (.int (nI l)), some (.int xa), some (.int (gM σ t l - xa))] [.int 0] h2
      exact V.reti hF (by decide +kernel) (Or.inr (Or.inl ⟨w1, fun k => (pI.mp k).1 c2, ⟨_, rfl⟩, _, _, _, hR, hM2, hk1.tr hk2⟩))
    · skip
      refine V.run hF [(.iload 4, 2, .null)] (pc' := 38) (L' := [some (.ref (B 0)), some (.int (nI t)), some (.int (nI l)), some (.int xa), some (.int (gM σ t l - xa))]) (st' := [.int (gM σ t l - xa)]) (by decide +kernel) rfl ?_
      refine V.if_ge hF (off := 9) (tgt := 47) (by decide +kernel) (by decide) (fun c3 => ?_) (fun c3 => ?_)
      · have w2 := pI.mpr ⟨c2, (sub_nn (hP t l ht hl) c2).mp c3⟩
        refine V.run hF [(.iload 4, 2, .null)] (pc' := 49) (L' := [some (.ref (B 0)), some (.int (nI t)), some (.int (nI l)), some (.int xa), some (.int (gM σ t l - xa))]) (st' := [.int (gM σ t l - xa)]) (by decide +kernel) rfl ?_
        refine V.if_ne hF (off := 12) (tgt := 61) (by decide +kernel) (by decide) (fun c4 => ?_) (fun c4 => ?_)
        · skip
          refine V.run hF [(.aload_n 0, 1, .null)] (pc' := 62) (L' := [some (.ref (B 0)), some (.int (nI t)), some (.int (nI l)), some (.int xa), some (.int (gM σ t l - xa))]) (st' := [.ref (B 0)]) (by decide +kernel) rfl ?_
          refine V.getf hG hF k_RX4_24 (by decide +kernel) hM1.2.1 rfl ?_
          refine V.run hF [(.iload_n 1, 1, .null), (.iload_n 2, 1, .null)] (pc' := 67) (L' := [some (.ref (B 0)), some (.int (nI t)), some (.int (nI l)), some (.int xa), some (.int (gM σ t l - xa))]) (st' := [.int (nI l), .int (nI t), .ref (B 4)]) (by decide +kernel) rfl ?_
          refine V.callS (As := [.int (nI t), .int (nI l)]) (st := [.ref (B 4)]) hG hF k_RX4_50 (by decide +kernel) (c_X4_at t l) rfl ⟨by rw [hRm]; decide, by rw [hRm]; decide⟩ (Nat.le_of_ble_eq_true rfl) rfl (fun v h_5 gp5 => ?_) (fun E h9 hx => hx.elim)
          obtain ⟨rfl, he_gp5⟩ := gp5
          rw [he_gp5]
          show V G F _ _ _ 70 [some (.ref (B 0)), some (.int (nI t)), some (.int (nI l)), some (.int xa), some (.int (gM σ t l - xa))] [.int (nI (48 * t + 4 * l)), .ref (B 4)] h1
          refine V.run hF [(.iconst 2, 1, .int (nI 2)), (.iadd, 1, .null)] (pc' := 72) (L' := [some (.ref (B 0)), some (.int (nI t)), some (.int (nI l)), some (.int xa), some (.int (gM σ t l - xa))]) (st' := [.int (nI (48 * t + 4 * l) + nI 2), .ref (B 4)]) (by decide +kernel) rfl ?_
          rw [nI_add]
          refine V.run hF [(.iload 4, 2, .null)] (pc' := 74) (L' := [some (.ref (B 0)), some (.int (nI t)), some (.int (nI l)), some (.int xa), some (.int (gM σ t l - xa))]) (st' := [.int (gM σ t l - xa), .int (nI (48 * t + 4 * l + 2)), .ref (B 4)]) (by decide +kernel) rfl ?_
          refine V.iastN (j := 48 * t + 4 * l + 2) hG hF (by decide +kernel) hM1.2.2.2.2.2.1 (by omega) (by decide) ?_
          obtain ⟨h_6, gh6⟩ : ∃ z : Hp, z = hset h1 (B 4) (.inl (0, 384, .inl (upd (uli u) (48 * t + 4 * l + 2) (gM σ t l - xa)))) := ⟨_, rfl⟩
          refine V.hp gh6 ?_
          have gk6 : ∀ q : Nat, q ≠ (B 4) → h_6 q = h1 q := fun q hq => by rw [gh6]; exact hset_ne hq
          have gs6 : h_6 (B 4) = some (.inl (0, 384, .inl (upd (uli u) (48 * t + 4 * l + 2) (gM σ t l - xa)))) := by rw [gh6]; exact hset_eq
          have hM2 := hM1.c4 gs6 (fun q hq => gk6 q hq)
          have hk2 := hk1.tr (kpB.one (i := 4) (by omega) (fun q hq => gk6 q hq))
          refine V.run hF [(.iload 4, 2, .null)] (pc' := 77) (L' := [some (.ref (B 0)), some (.int (nI t)), some (.int (nI l)), some (.int xa), some (.int (gM σ t l - xa))]) (st' := [.int (gM σ t l - xa)]) (by decide +kernel) rfl ?_
          exact V.reti hF (by decide +kernel) (Or.inr (Or.inr ⟨w1, w2, t, l, ht, hl, rfl, rfl, rfl, by rw [sPay, if_neg c4]; exact ⟨_, _, _, hR.less ht hl, hM2, hk2⟩⟩))
        · skip
          refine V.run hF [(.aload_n 0, 1, .null), (.iload_n 1, 1, .null), (.iload_n 2, 1, .null)] (pc' := 55) (L' := [some (.ref (B 0)), some (.int (nI t)), some (.int (nI l)), some (.int xa), some (.int (gM σ t l - xa))]) (st' := [.int (nI l), .int (nI t), .ref (B 0)]) (by decide +kernel) rfl ?_
          refine V.callV (As := [.int (nI t), .int (nI l)]) (st := []) hG hF k_RX4_97 (by decide +kernel) (c_X4_remove hG hM1 hR ht hl) hM1.2.1 rfl rfl ⟨by rw [hRm]; decide, by rw [hRm]; decide⟩ (Nat.le_of_ble_eq_true rfl) rfl (fun v2 h2 hp => ?_) (fun E h9 hx => hx.elim)
          obtain ⟨hv, u2, hR2, hM3, hk3⟩ := hp
          rw [hv]
          show V G F _ _ _ 58 [some (.ref (B 0)), some (.int (nI t)), some (.int (nI l)), some (.int xa), some (.int (gM σ t l - xa))] [] h2
          refine V.run hF [(.goto 17, 3, .null), (.iload 4, 2, .null)] (pc' := 77) (L' := [some (.ref (B 0)), some (.int (nI t)), some (.int (nI l)), some (.int xa), some (.int (gM σ t l - xa))]) (st' := [.int (gM σ t l - xa)]) (by decide +kernel) rfl ?_
          exact V.reti hF (by decide +kernel) (Or.inr (Or.inr ⟨w1, w2, t, l, ht, hl, rfl, rfl, rfl, by rw [sPay, if_pos c4]; exact ⟨u2, _, _, hR2, hM3, hk1.tr hk3⟩⟩))
      · skip
        refine V.run hF [(.aload_n 0, 1, .null), (.iconst 2, 1, .int 2)] (pc' := 43) (L' := [some (.ref (B 0)), some (.int (nI t)), some (.int (nI l)), some (.int xa), some (.int (gM σ t l - xa))]) (st' := [.int 2, .ref (B 0)]) (by decide +kernel) rfl ?_
        refine V.callV (As := [.int 2]) (st := []) hG hF k_RX4_86 (by decide +kernel) (c_X4_fail hG hM1 2) hM1.2.1 rfl rfl ⟨by rw [hRm]; decide, by rw [hRm]; decide⟩ (Nat.le_of_ble_eq_true rfl) rfl (fun v2 h2 hp => ?_) (fun E h9 hx => hx.elim)
        obtain ⟨rfl, hM2, hk2⟩ := hp
        show V G F _ _ _ 46 [some (.ref (B 0)), some (.int (nI t)), some (.int (nI l)), some (.int xa), some (.int (gM σ t l - xa))] [.int 0] h2
        exact V.reti hF (by decide +kernel) (Or.inr (Or.inl ⟨w1, fun k => c3 ((sub_nn (hP t l ht hl) c2).mpr (pI.mp k).2), ⟨_, rfl⟩, _, _, _, hR, hM2, hk1.tr hk2⟩))
  · skip
    refine V.run hF [(.aload_n 0, 1, .null), (.iconst 1, 1, .int 1)] (pc' := 16) (L' := [some (.ref (B 0)), some (.int v), some (.int z), some (.int xa), none]) (st' := [.int 1, .ref (B 0)]) (by decide +kernel) rfl ?_
    refine V.callV (As := [.int 1]) (st := []) hG hF k_RX4_86 (by decide +kernel) (c_X4_fail hG hM1 1) hM1.2.1 rfl rfl ⟨by rw [hRm]; decide, by rw [hRm]; decide⟩ (Nat.le_of_ble_eq_true rfl) rfl (fun v2 h2 hp => ?_) (fun E h9 hx => hx.elim)
    obtain ⟨rfl, hM2, hk2⟩ := hp
    show V G F _ _ _ 19 [some (.ref (B 0)), some (.int v), some (.int z), some (.int xa), none] [.int 0] h2
    exact V.reti hF (by decide +kernel) (Or.inl ⟨tf_0 c1, ⟨_, rfl⟩, _, _, _, hR, hM2, hk1.tr hk2⟩)
end Ng