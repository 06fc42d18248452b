/-! ===== TallyWaxModel: questions ===== -/
def an0 (B : Nat → Nat) (σ : Sg) (u : Mu) (h : Hp) (y : Int32) : Option Value → Hp → Prop := fun v h' => v = some (.int y) ∧ ∃ md' hs', MO h' B σ 0 u md' hs' ∧ kpB h h' B
def mq (B : Nat → Nat) (σ : Sg) (u : Mu) (h : Hp) (c : Prop) (y : Int32) : Option Value → Hp → Prop := fun v h' => ∃ k z, v = some (.int z) ∧ ((c ∧ k = 0 ∧ z = y) ∨ (¬ c ∧ k = 1)) ∧ ∃ md' hs', MO h' B σ k u md' hs' ∧ kpB h h' B
section Mr
variable {G : Gt} {h : Hp} {B : Nat → Nat} {σ : Sg} {x : Int32} {u : Mu} {md hs : Nat → Int32}
set_option maxHeartbeats 4000000 in
theorem c_X4_year (hG : GOk G) (hM : MO h B σ x u md hs) (hR : RM σ u) : Ct G yX4_year (.code yX4_year cX4_year 1 (some .int)) 1 21 0 0 [.ref (B 0)] h (an0 B σ u h (nI (gy σ))) pxN := by
  refine Ct.of (by decide +kernel) (Nat.le_of_ble_eq_true rfl) fun F hF hT hN hRm => ?_
  have h8 := hR.1
  refine V.run hF [(.aload_n 0, 1, .null), (.aload_n 0, 1, .null)] (pc' := 2) (L' := [some (.ref (B 0))]) (st' := [.ref (B 0), .ref (B 0)]) (by decide +kernel) rfl ?_
  refine V.getf hG hF k_RX4_110 (by decide +kernel) hM.2.1 rfl ?_
  refine V.callV (As := [.int (nI (gy σ))]) (st := []) hG hF k_RX4_116 (by decide +kernel) (c_X4_told hG hM (nI (gy σ))) hM.2.1 rfl rfl ⟨by rw [hRm]; decide, by rw [hRm]; decide⟩ (Nat.le_of_ble_eq_true rfl) rfl (fun v h2 hp => ?_) (fun E h9 hx => hx.elim)
  obtain ⟨rfl, hM2, hk2⟩ := hp
  show V G F _ _ _ 8 [some (.ref (B 0))] [.int (nI (gy σ))] h2
  exact V.reti hF (by decide +kernel) ⟨rfl, md, hs, hM2, hk2⟩
set_option maxHeartbeats 4000000 in
theorem c_X4_tablets (hG : GOk G) (hM : MO h B σ x u md hs) (hR : RM σ u) : Ct G yX4_tablets (.code yX4_tablets cX4_tablets 1 (some .int)) 1 21 0 0 [.ref (B 0)] h (an0 B σ u h (nI (gT σ))) pxN := by
  refine Ct.of (by decide +kernel) (Nat.le_of_ble_eq_true rfl) fun F hF hT hN hRm => ?_
  have h8 := hR.1
  refine V.run hF [(.aload_n 0, 1, .null), (.aload_n 0, 1, .null)] (pc' := 2) (L' := [some (.ref (B 0))]) (st' := [.ref (B 0), .ref (B 0)]) (by decide +kernel) rfl ?_
  refine V.getf hG hF k_RX4_43 (by decide +kernel) hM.2.1 rfl ?_
  refine V.callV (As := [.int (nI (gT σ))]) (st := []) hG hF k_RX4_116 (by decide +kernel) (c_X4_told hG hM (nI (gT σ))) hM.2.1 rfl rfl ⟨by rw [hRm]; decide, by rw [hRm]; decide⟩ (Nat.le_of_ble_eq_true rfl) rfl (fun v h2 hp => ?_) (fun E h9 hx => hx.elim)
  obtain ⟨rfl, hM2, hk2⟩ := hp
  show V G F _ _ _ 8 [some (.ref (B 0))] [.int (nI (gT σ))] h2
  exact V.reti hF (by decide +kernel) ⟨rfl, md, hs, hM2, hk2⟩
set_option maxHeartbeats 4000000 in
theorem c_X4_melted (hG : GOk G) (hM : MO h B σ x u md hs) (hR : RM σ u) : Ct G yX4_melted (.code yX4_melted cX4_melted 1 (some .int)) 1 21 0 0 [.ref (B 0)] h (an0 B σ u h (gme σ)) pxN := by
  refine Ct.of (by decide +kernel) (Nat.le_of_ble_eq_true rfl) fun F hF hT hN hRm => ?_
  have h8 := hR.1
  refine V.run hF [(.aload_n 0, 1, .null), (.aload_n 0, 1, .null)] (pc' := 2) (L' := [some (.ref (B 0))]) (st' := [.ref (B 0), .ref (B 0)]) (by decide +kernel) rfl ?_
  refine V.getf hG hF k_RX4_107 (by decide +kernel) hM.2.1 rfl ?_
  refine V.callV (As := [.int (gme σ)]) (st := []) hG hF k_RX4_116 (by decide +kernel) (c_X4_told hG hM (gme σ)) hM.2.1 rfl rfl ⟨by rw [hRm]; decide, by rw [hRm]; decide⟩ (Nat.le_of_ble_eq_true rfl) rfl (fun v h2 hp => ?_) (fun E h9 hx => hx.elim)
  obtain ⟨rfl, hM2, hk2⟩ := hp
  show V G F _ _ _ 8 [some (.ref (B 0))] [.int (gme σ)] h2
  exact V.reti hF (by decide +kernel) ⟨rfl, md, hs, hM2, hk2⟩
set_option maxHeartbeats 4000000 in
theorem c_X4_denied (hG : GOk G) (hM : MO h B σ x u md hs) (hR : RM σ u) : Ct G yX4_denied (.code yX4_denied cX4_denied 1 (some .int)) 1 21 0 0 [.ref (B 0)] h (an0 B σ u h (gde σ)) pxN := by
  refine Ct.of (by decide +kernel) (Nat.le_of_ble_eq_true rfl) fun F hF hT hN hRm => ?_
  have h8 := hR.1
  refine V.run hF [(.aload_n 0, 1, .null), (.aload_n 0, 1, .null)] (pc' := 2) (L' := [some (.ref (B 0))]) (st' := [.ref (B 0), .ref (B 0)]) (by decide +kernel) rfl ?_
  refine V.getf hG hF k_RX4_101 (by decide +kernel) hM.2.1 rfl ?_
  refine V.callV (As := [.int (gde σ)]) (st := []) hG hF k_RX4_116 (by decide +kernel) (c_X4_told hG hM (gde σ)) hM.2.1 rfl rfl ⟨by rw [hRm]; decide, by rw [hRm]; decide⟩ (Nat.le_of_ble_eq_true rfl) rfl (fun v h2 hp => ?_) (fun E h9 hx => hx.elim)
  obtain ⟨rfl, hM2, hk2⟩ := hp
  show V G F _ _ _ 8 [some (.ref (B 0))] [.int (gde σ)] h2
  exact V.reti hF (by decide +kernel) ⟨rfl, md, hs, hM2, hk2⟩
set_option maxHeartbeats 4000000 in
theorem c_X4_lines (hG : GOk G) (hM : MO h B σ x u md hs) (hR : RM σ u) : Ct G yX4_lines (.code yX4_lines cX4_lines 1 (some .int)) 1 22 0 0 [.ref (B 0)] h (an0 B σ u h (gLn σ (gT σ))) pxN := by
  refine Ct.of (by decide +kernel) (Nat.le_of_ble_eq_true rfl) fun F hF hT hN hRm => ?_
  have h8 := hR.1
  refine V.run hF [(.aload_n 0, 1, .null), (.aload_n 0, 1, .null)] (pc' := 2) (L' := [some (.ref (B 0))]) (st' := [.ref (B 0), .ref (B 0)]) (by decide +kernel) rfl ?_
  refine V.callV (As := []) (st := [.ref (B 0)]) hG hF k_RX4_119 (by decide +kernel) (c_X4_all hG hM hR) hM.2.1 rfl rfl ⟨by rw [hRm]; decide, by rw [hRm]; decide⟩ (Nat.le_of_ble_eq_true rfl) rfl (fun v h_1 gp1 => ?_) (fun E h9 hx => hx.elim)
  obtain ⟨rfl, he_gp1⟩ := gp1
  rw [he_gp1]
  show V G F _ _ _ 5 [some (.ref (B 0))] [.int (gLn σ (gT σ)), .ref (B 0)] h
  refine V.callV (As := [.int (gLn σ (gT σ))]) (st := []) hG hF k_RX4_116 (by decide +kernel) (c_X4_told hG hM (gLn σ (gT σ))) hM.2.1 rfl rfl ⟨by rw [hRm]; decide, by rw [hRm]; decide⟩ (Nat.le_of_ble_eq_true rfl) rfl (fun v h2 hp => ?_) (fun E h9 hx => hx.elim)
  obtain ⟨rfl, hM2, hk2⟩ := hp
  show V G F _ _ _ 8 [some (.ref (B 0))] [.int (gLn σ (gT σ))] h2
  exact V.reti hF (by decide +kernel) ⟨rfl, md, hs, hM2, hk2⟩
set_option maxHeartbeats 4000000 in
theorem c_X4_total (hG : GOk G) (hM : MO h B σ x u md hs) (hR : RM σ u) : Ct G yX4_total (.code yX4_total cX4_total 1 (some .int)) 3 67 0 0 [.ref (B 0)] h (an0 B σ u h (gTo σ (gT σ))) pxN := by
  refine Ct.of (by decide +kernel) (Nat.le_of_ble_eq_true rfl) fun F hF hT hN hRm => ?_
  have h8 := hR.1
  refine V.run hF [(.aload_n 0, 1, .null), (.aload_n 0, 1, .null)] (pc' := 2) (L' := [some (.ref (B 0))]) (st' := [.ref (B 0), .ref (B 0)]) (by decide +kernel) rfl ?_
  refine V.callV (As := []) (st := [.ref (B 0)]) hG hF k_RX4_132 (by decide +kernel) (c_X4_sum hG hM hR) hM.2.1 rfl rfl ⟨by rw [hRm]; decide, by rw [hRm]; decide⟩ (Nat.le_of_ble_eq_true rfl) rfl (fun v h_1 gp1 => ?_) (fun E h9 hx => hx.elim)
  obtain ⟨rfl, he_gp1⟩ := gp1
  rw [he_gp1]
  show V G F _ _ _ 5 [some (.ref (B 0))] [.int (gTo σ (gT σ)), .ref (B 0)] h
  refine V.callV (As := [.int (gTo σ (gT σ))]) (st := []) hG hF k_RX4_116 (by decide +kernel) (c_X4_told hG hM (gTo σ (gT σ))) hM.2.1 rfl rfl ⟨by rw [hRm]; decide, by rw [hRm]; decide⟩ (Nat.le_of_ble_eq_true rfl) rfl (fun v h2 hp => ?_) (fun E h9 hx => hx.elim)
  obtain ⟨rfl, hM2, hk2⟩ := hp
  show V G F _ _ _ 8 [some (.ref (B 0))] [.int (gTo σ (gT σ))] h2
  exact V.reti hF (by decide +kernel) ⟨rfl, md, hs, hM2, hk2⟩
set_option maxHeartbeats 4000000 in
theorem c_X4_richest (hG : GOk G) (hM : MO h B σ x u md hs) (hR : RM σ u) : Ct G yX4_richest (.code yX4_richest cX4_richest 1 (some .int)) 5 107 0 0 [.ref (B 0)] h (an0 B σ u h (rch σ)) pxN := by
  refine Ct.of (by decide +kernel) (Nat.le_of_ble_eq_true rfl) fun F hF hT hN hRm => ?_
  have h8 := hR.1
  refine V.run hF [(.aload_n 0, 1, .null), (.aload_n 0, 1, .null)] (pc' := 2) (L' := [some (.ref (B 0))]) (st' := [.ref (B 0), .ref (B 0)]) (by decide +kernel) rfl ?_
  refine V.callV (As := []) (st := [.ref (B 0)]) hG hF k_RX4_135 (by decide +kernel) (c_X4_most hG hM hR) hM.2.1 rfl rfl ⟨by rw [hRm]; decide, by rw [hRm]; decide⟩ (Nat.le_of_ble_eq_true rfl) rfl (fun v h1 hp => ?_) (fun E h9 hx => hx.elim)
  obtain ⟨rfl, g, hM1, hk1⟩ := hp
  show V G F _ _ _ 5 [some (.ref (B 0))] [.int (rch σ), .ref (B 0)] h1
  refine V.callV (As := [.int (rch σ)]) (st := []) hG hF k_RX4_116 (by decide +kernel) (c_X4_told hG hM1 (rch σ)) hM1.2.1 rfl rfl ⟨by rw [hRm]; decide, by rw [hRm]; decide⟩ (Nat.le_of_ble_eq_true rfl) rfl (fun v h2 hp => ?_) (fun E h9 hx => hx.elim)
  obtain ⟨rfl, hM2, hk2⟩ := hp
  show V G F _ _ _ 8 [some (.ref (B 0))] [.int (rch σ)] h2
  exact V.reti hF (by decide +kernel) ⟨rfl, md, g, hM2, hk1.tr hk2⟩
set_option maxHeartbeats 4000000 in
theorem c_X4_linesOf (hG : GOk G) (hM : MO h B σ x u md hs) (hR : RM σ u) (v : Int32) : Ct G yX4_linesOf (.code yX4_linesOf cX4_linesOf 2 (some .int)) 2 43 0 0 [.ref (B 0), .int v] h (mq B σ u h (inT σ v) (nI (gn σ v.toNatClampNeg))) pxN := by
  refine Ct.of (by decide +kernel) (Nat.le_of_ble_eq_true rfl) fun F hF hT hN hRm => ?_
  have h8 := hR.1
  refine V.run hF [(.aload_n 0, 1, .null), (.iconst 0, 1, .int 0)] (pc' := 2) (L' := [some (.ref (B 0)), some (.int v)]) (st' := [.int 0, .ref (B 0)]) (by decide +kernel) rfl ?_
  refine V.putf hG hF k_RX4_36 (by decide +kernel) hM.2.1 (fun C T N hc => by cases hc; exact ⟨rfl, .int, by decide +kernel, rfl, rfl⟩) (Nat.le_of_ble_eq_true rfl) ?_
  obtain ⟨h_1, gh1⟩ : ∃ z : Hp, z = hset h (B 0) (.inr (4, [.int 0, .int (uth u), .int (nI (gT σ)), .ref (B 1), .ref (B 2), .ref (B 3), .ref (B 4), .ref (B 5), .int (nI (gy σ)), .int (gme σ), .int (gde σ), .ref (B 6), .ref (B 7)])) := ⟨_, rfl⟩
  refine V.hp gh1 ?_
  have gk1 : ∀ q : Nat, q ≠ (B 0) → h_1 q = h q := fun q hq => by rw [gh1]; exact hset_ne hq
  have gs1 : h_1 (B 0) = some (.inr (4, [.int 0, .int (uth u), .int (nI (gT σ)), .ref (B 1), .ref (B 2), .ref (B 3), .ref (B 4), .ref (B 5), .int (nI (gy σ)), .int (gme σ), .int (gde σ), .ref (B 6), .ref (B 7)])) := by rw [gh1]; exact hset_eq
  have hM1 := hM.th gs1 (fun q hq => gk1 q hq)
  have hk1 : kpB h h_1 B := kpB.one (i := 0) (by omega) (fun q hq => gk1 q hq)
  obtain ⟨h1, eh1⟩ : ∃ z, z = h_1 := ⟨_, rfl⟩
  rw [← eh1] at hM1 hk1 ⊢
  refine V.run hF [(.aload_n 0, 1, .null), (.iload_n 1, 1, .null)] (pc' := 7) (L' := [some (.ref (B 0)), some (.int v)]) (st' := [.int v, .ref (B 0)]) (by decide +kernel) rfl ?_
  refine V.callV (As := [.int v]) (st := []) hG hF k_RX4_46 (by decide +kernel) (c_X4_isTablet hG hM1 hR.1 v) hM1.2.1 rfl rfl ⟨by rw [hRm]; decide, by rw [hRm]; decide⟩ (Nat.le_of_ble_eq_true rfl) rfl (fun v h_2 gp2 => ?_) (fun E h9 hx => hx.elim)
  obtain ⟨rfl, he_gp2⟩ := gp2
  rw [he_gp2]
  show V G F _ _ _ 10 [some (.ref (B 0)), some (.int v)] [.int (tf (inT σ v))] h1
  refine V.if_eq hF (off := 12) (tgt := 22) (by decide +kernel) (by decide) (fun c1 => ?_) (fun c1 => ?_)
  · skip
    refine V.run hF [(.aload_n 0, 1, .null), (.iconst 1, 1, .int 1)] (pc' := 24) (L' := [some (.ref (B 0)), some (.int v)]) (st' := [.int 1, .ref (B 0)]) (by decide +kernel) rfl ?_
    refine V.callV (As := [.int 1]) (st := []) hG hF k_RX4_86 (by decide +kernel) (c_X4_fail hG hM1 1) hM1.2.1 rfl rfl ⟨by rw [hRm]; decide, by rw [hRm]; decide⟩ (Nat.le_of_ble_eq_true rfl) rfl (fun v h2 hp => ?_) (fun E h9 hx => hx.elim)
    obtain ⟨rfl, hM2, hk2⟩ := hp
    show V G F _ _ _ 27 [some (.ref (B 0)), some (.int v)] [.int 0] h2
    exact V.reti hF (by decide +kernel) ⟨1, 0, rfl, Or.inr ⟨tf_0 c1, rfl⟩, _, _, hM2, hk1.tr hk2⟩
  · skip
    obtain ⟨t, ht, rfl⟩ := (inT_iff hR.1).mp (tf_1 c1)
    have et : (nI t).toNatClampNeg = t := nI_clamp (by omega)
    obtain ⟨ea, eb, ez, em, en, -⟩ := hR.2.2.2.1 t ht
    refine V.run hF [(.aload_n 0, 1, .null)] (pc' := 14) (L' := [some (.ref (B 0)), some (.int (nI t))]) (st' := [.ref (B 0)]) (by decide +kernel) rfl ?_
    refine V.getf hG hF k_RX4_21 (by decide +kernel) hM1.2.1 rfl ?_
    refine V.run hF [(.iload_n 1, 1, .null)] (pc' := 18) (L' := [some (.ref (B 0)), some (.int (nI t))]) (st' := [.int (nI t), .ref (B 3)]) (by decide +kernel) rfl ?_
    refine V.ialdN (j := t) hG hF (by decide +kernel) hM1.2.2.2.2.1 (by omega) (by decide) ?_
    rw [em]
    refine V.run hF [(.goto 8, 3, .null)] (pc' := 27) (L' := [some (.ref (B 0)), some (.int (nI t))]) (st' := [.int (nI (gn σ t))]) (by decide +kernel) rfl ?_
    exact V.reti hF (by decide +kernel) ⟨0, _, rfl, Or.inl ⟨tf_1 c1, rfl, by rw [et]⟩, _, _, hM1, hk1⟩
set_option maxHeartbeats 4000000 in
theorem c_X4_ofLine (hG : GOk G) (hM : MO h B σ x u md hs) (hR : RM σ u) (v w : Int32) {k : Nat} (hk4 : k < 4) {z : Int32} (ez : z = nI k) : Ct G yX4_ofLine (.code yX4_ofLine cX4_ofLine 4 (some .int)) 3 65 0 0 [.ref (B 0), .int v, .int w, .int z] h (mq B σ u h (inL σ v w) (uli u (48 * v.toNatClampNeg + 4 * w.toNatClampNeg + k))) pxN := by
  refine Ct.of (by decide +kernel) (Nat.le_of_ble_eq_true rfl) fun F hF hT hN hRm => ?_
  have h8 := hR.1
  refine V.run hF [(.aload_n 0, 1, .null), (.iconst 0, 1, .int 0)] (pc' := 2) (L' := [some (.ref (B 0)), some (.int v), some (.int w), some (.int z)]) (st' := [.int 0, .ref (B 0)]) (by decide +kernel) rfl ?_
  refine V.putf hG hF k_RX4_36 (by decide +kernel) hM.2.1 (fun C T N hc => by cases hc; exact ⟨rfl, .int, by decide +kernel, rfl, rfl⟩) (Nat.le_of_ble_eq_true rfl) ?_
  obtain ⟨h_1, gh1⟩ : ∃ z : Hp, z = hset h (B 0) (.inr (4, [.int 0, .int (uth u), .int (nI (gT σ)), .ref (B 1), .ref (B 2), .ref (B 3), .ref (B 4), .ref (B 5), .int (nI (gy σ)), .int (gme σ), .int (gde σ), .ref (B 6), .ref (B 7)])) := ⟨_, rfl⟩
  refine V.hp gh1 ?_
  have gk1 : ∀ q : Nat, q ≠ (B 0) → h_1 q = h q := fun q hq => by rw [gh1]; exact hset_ne hq
  have gs1 : h_1 (B 0) = some (.inr (4, [.int 0, .int (uth u), .int (nI (gT σ)), .ref (B 1), .ref (B 2), .ref (B 3), .ref (B 4), .ref (B 5), .int (nI (gy σ)), .int (gme σ), .int (gde σ), .ref (B 6), .ref (B 7)])) := by rw [gh1]; exact hset_eq
  have hM1 := hM.th gs1 (fun q hq => gk1 q hq)
  have hk1 : kpB h h_1 B := kpB.one (i := 0) (by omega) (fun q hq => gk1 q hq)
  obtain ⟨h1, eh1⟩ : ∃ z, z = h_1 := ⟨_, rfl⟩
  rw [← eh1] at hM1 hk1 ⊢
  refine V.run hF [(.aload_n 0, 1, .null), (.iload_n 1, 1, .null), (.iload_n 2, 1, .null)] (pc' := 8) (L' := [some (.ref (B 0)), some (.int v), some (.int w), some (.int z)]) (st' := [.int w, .int v, .ref (B 0)]) (by decide +kernel) rfl ?_
  refine V.callV (As := [.int v, .int w]) (st := []) hG hF k_RX4_93 (by decide +kernel) (c_X4_isLine hG hM1 hR v w) hM1.2.1 rfl rfl ⟨by rw [hRm]; decide, by rw [hRm]; decide⟩ (Nat.le_of_ble_eq_true rfl) rfl (fun v h_2 gp2 => ?_) (fun E h9 hx => hx.elim)
  obtain ⟨rfl, he_gp2⟩ := gp2
  rw [he_gp2]
  show V G F _ _ _ 11 [some (.ref (B 0)), some (.int v), some (.int w), some (.int z)] [.int (tf (inL σ v w))] h1
  refine V.if_eq hF (off := 13) (tgt := 24) (by decide +kernel) (by decide) (fun c1 => ?_) (fun c1 => ?_)
  · skip
    refine V.run hF [(.aload_n 0, 1, .null), (.iconst 1, 1, .int 1)] (pc' := 26) (L' := [some (.ref (B 0)), some (.int v), some (.int w), some (.int z)]) (st' := [.int 1, .ref (B 0)]) (by decide +kernel) rfl ?_
    refine V.callV (As := [.int 1]) (st := []) hG hF k_RX4_86 (by decide +kernel) (c_X4_fail hG hM1 1) hM1.2.1 rfl rfl ⟨by rw [hRm]; decide, by rw [hRm]; decide⟩ (Nat.le_of_ble_eq_true rfl) rfl (fun v h2 hp => ?_) (fun E h9 hx => hx.elim)
    obtain ⟨rfl, hM2, hk2⟩ := hp
    show V G F _ _ _ 29 [some (.ref (B 0)), some (.int v), some (.int w), some (.int z)] [.int 0] h2
    exact V.reti hF (by decide +kernel) ⟨1, 0, rfl, Or.inr ⟨tf_0 c1, rfl⟩, _, _, hM2, hk1.tr hk2⟩
  · skip
    obtain ⟨t, l, ht, hl, rfl, rfl⟩ := (inL_iff hR.1 (fun t ht => (hR.mn ht).2.2)).mp (tf_1 c1)
    have e12 := (hR.mn ht).2.2
    have et : (nI t).toNatClampNeg = t := nI_clamp (by omega)
    have el : (nI l).toNatClampNeg = l := nI_clamp (by omega)
    refine V.run hF [(.aload_n 0, 1, .null), (.iload_n 1, 1, .null), (.iload_n 2, 1, .null), (.iload_n 3, 1, .null)] (pc' := 18) (L' := [some (.ref (B 0)), some (.int (nI t)), some (.int (nI l)), some (.int z)]) (st' := [.int z, .int (nI l), .int (nI t), .ref (B 0)]) (by decide +kernel) rfl ?_
    refine V.callV (As := [.int (nI t), .int (nI l), .int z]) (st := []) hG hF k_RX4_60 (by decide +kernel) (c_X4_of hG hM1 (t := t) (l := l) (by omega) (by omega) hk4 ez) hM1.2.1 rfl rfl ⟨by rw [hRm]; decide, by rw [hRm]; decide⟩ (Nat.le_of_ble_eq_true rfl) rfl (fun v h_4 gp4 => ?_) (fun E h9 hx => hx.elim)
    obtain ⟨rfl, he_gp4⟩ := gp4
    rw [he_gp4]
    show V G F _ _ _ 21 [some (.ref (B 0)), some (.int (nI t)), some (.int (nI l)), some (.int z)] [.int (uli u (48 * t + 4 * l + k))] h1
    refine V.run hF [(.goto 8, 3, .null)] (pc' := 29) (L' := [some (.ref (B 0)), some (.int (nI t)), some (.int (nI l)), some (.int z)]) (st' := [.int (uli u (48 * t + 4 * l + k))]) (by decide +kernel) rfl ?_
    exact V.reti hF (by decide +kernel) ⟨0, _, rfl, Or.inl ⟨tf_1 c1, rfl, by rw [et, el]⟩, _, _, hM1, hk1⟩
set_option maxHeartbeats 4000000 in
theorem c_X4_debtorOf (hG : GOk G) (hM : MO h B σ x u md hs) (hR : RM σ u) (v w : Int32) : Ct G yX4_debtorOf (.code yX4_debtorOf cX4_debtorOf 3 (some .int)) 4 88 0 0 [.ref (B 0), .int v, .int w] h (mq B σ u h (inL σ v w) (gDD σ v.toNatClampNeg w.toNatClampNeg)) pxN := by
  refine Ct.of (by decide +kernel) (Nat.le_of_ble_eq_true rfl) fun F hF hT hN hRm => ?_
  have h8 := hR.1
  refine V.run hF [(.aload_n 0, 1, .null), (.iload_n 1, 1, .null), (.iload_n 2, 1, .null), (.iconst 0, 1, .int 0)] (pc' := 4) (L' := [some (.ref (B 0)), some (.int v), some (.int w)]) (st' := [.int 0, .int w, .int v, .ref (B 0)]) (by decide +kernel) rfl ?_
  refine V.callV (As := [.int v, .int w, .int 0]) (st := []) hG hF k_RX4_123 (by decide +kernel) (c_X4_ofLine hG hM hR v w (k := 0) (by decide) rfl) hM.2.1 rfl rfl ⟨by rw [hRm]; decide, by rw [hRm]; decide⟩ (Nat.le_of_ble_eq_true rfl) rfl (fun v' h2 hp => ?_) (fun E h9 hx => hx.elim)
  obtain ⟨k, z, rfl, hh, md2, hs2, hM2, hk2⟩ := hp
  show V G F _ _ _ 7 [some (.ref (B 0)), some (.int v), some (.int w)] [.int z] h2
  exact V.reti hF (by decide +kernel) ⟨k, z, rfl, hh.imp (fun q => ⟨q.1, q.2.1, q.2.2.trans (by
    obtain ⟨t, l, ht, hl, rfl, rfl⟩ := (inL_iff hR.1 (fun t ht => (hR.mn ht).2.2)).mp q.1
    have e12 := (hR.mn ht).2.2
    rw [nI_clamp (by omega), nI_clamp (by omega)]
    exact (hR.row ht hl).2.2.1)⟩) id, md2, hs2, hM2, hk2⟩
set_option maxHeartbeats 4000000 in
theorem c_X4_creditorOf (hG : GOk G) (hM : MO h B σ x u md hs) (hR : RM σ u) (v w : Int32) : Ct G yX4_creditorOf (.code yX4_creditorOf cX4_creditorOf 3 (some .int)) 4 88 0 0 [.ref (B 0), .int v, .int w] h (mq B σ u h (inL σ v w) (gC σ v.toNatClampNeg w.toNatClampNeg)) pxN := by
  refine Ct.of (by decide +kernel) (Nat.le_of_ble_eq_true rfl) fun F hF hT hN hRm => ?_
  have h8 := hR.1
  refine V.run hF [(.aload_n 0, 1, .null), (.iload_n 1, 1, .null), (.iload_n 2, 1, .null), (.iconst 1, 1, .int 1)] (pc' := 4) (L' := [some (.ref (B 0)), some (.int v), some (.int w)]) (st' := [.int 1, .int w, .int v, .ref (B 0)]) (by decide +kernel) rfl ?_
  refine V.callV (As := [.int v, .int w, .int 1]) (st := []) hG hF k_RX4_123 (by decide +kernel) (c_X4_ofLine hG hM hR v w (k := 1) (by decide) rfl) hM.2.1 rfl rfl ⟨by rw [hRm]; decide, by rw [hRm]; decide⟩ (Nat.le_of_ble_eq_true rfl) rfl (fun v' h2 hp => ?_) (fun E h9 hx => hx.elim)
  obtain ⟨k, z, rfl, hh, md2, hs2, hM2, hk2⟩ := hp
  show V G F _ _ _ 7 [some (.ref (B 0)), some (.int v), some (.int w)] [.int z] h2
  exact V.reti hF (by decide +kernel) ⟨k, z, rfl, hh.imp (fun q => ⟨q.1, q.2.1, q.2.2.trans (by
    obtain ⟨t, l, ht, hl, rfl, rfl⟩ := (inL_iff hR.1 (fun t ht => (hR.mn ht).2.2)).mp q.1
    have e12 := (hR.mn ht).2.2
    rw [nI_clamp (by omega), nI_clamp (by omega)]
    exact (hR.row ht hl).2.2.2.1)⟩) id, md2, hs2, hM2, hk2⟩
set_option maxHeartbeats 4000000 in
theorem c_X4_amountOf (hG : GOk G) (hM : MO h B σ x u md hs) (hR : RM σ u) (v w : Int32) : Ct G yX4_amountOf (.code yX4_amountOf cX4_amountOf 3 (some .int)) 4 88 0 0 [.ref (B 0), .int v, .int w] h (mq B σ u h (inL σ v w) (gM σ v.toNatClampNeg w.toNatClampNeg)) pxN := by
  refine Ct.of (by decide +kernel) (Nat.le_of_ble_eq_true rfl) fun F hF hT hN hRm => ?_
  have h8 := hR.1
  refine V.run hF [(.aload_n 0, 1, .null), (.iload_n 1, 1, .null), (.iload_n 2, 1, .null), (.iconst 2, 1, .int 2)] (pc' := 4) (L' := [some (.ref (B 0)), some (.int v), some (.int w)]) (st' := [.int 2, .int w, .int v, .ref (B 0)]) (by decide +kernel) rfl ?_
  refine V.callV (As := [.int v, .int w, .int 2]) (st := []) hG hF k_RX4_123 (by decide +kernel) (c_X4_ofLine hG hM hR v w (k := 2) (by decide) rfl) hM.2.1 rfl rfl ⟨by rw [hRm]; decide, by rw [hRm]; decide⟩ (Nat.le_of_ble_eq_true rfl) rfl (fun v' h2 hp => ?_) (fun E h9 hx => hx.elim)
  obtain ⟨k, z, rfl, hh, md2, hs2, hM2, hk2⟩ := hp
  show V G F _ _ _ 7 [some (.ref (B 0)), some (.int v), some (.int w)] [.int z] h2
  exact V.reti hF (by decide +kernel) ⟨k, z, rfl, hh.imp (fun q => ⟨q.1, q.2.1, q.2.2.trans (by
    obtain ⟨t, l, ht, hl, rfl, rfl⟩ := (inL_iff hR.1 (fun t ht => (hR.mn ht).2.2)).mp q.1
    have e12 := (hR.mn ht).2.2
    rw [nI_clamp (by omega), nI_clamp (by omega)]
    exact (hR.row ht hl).2.2.2.2.1)⟩) id, md2, hs2, hM2, hk2⟩
set_option maxHeartbeats 4000000 in
theorem c_X4_has (hG : GOk G) (hM : MO h B σ x u md hs) (hR : RM σ u) (v : Int32) : Ct G yX4_has (.code yX4_has cX4_has 2 (some .int)) 4 88 0 0 [.ref (B 0), .int v] h (mq B σ u h (inP v) (balT σ (nI v.toNatClampNeg) (gT σ))) pxN := by
  refine Ct.of (by decide +kernel) (Nat.le_of_ble_eq_true rfl) fun F hF hT hN hRm => ?_
  have h8 := hR.1
  refine V.run hF [(.aload_n 0, 1, .null), (.iconst 0, 1, .int 0)] (pc' := 2) (L' := [some (.ref (B 0)), some (.int v)]) (st' := [.int 0, .ref (B 0)]) (by decide +kernel) rfl ?_
  refine V.putf hG hF k_RX4_36 (by decide +kernel) hM.2.1 (fun C T N hc => by cases hc; exact ⟨rfl, .int, by decide +kernel, rfl, rfl⟩) (Nat.le_of_ble_eq_true rfl) ?_
  obtain ⟨h_1, gh1⟩ : ∃ z : Hp, z = hset h (B 0) (.inr (4, [.int 0, .int (uth u), .int (nI (gT σ)), .ref (B 1), .ref (B 2), .ref (B 3), .ref (B 4), .ref (B 5), .int (nI (gy σ)), .int (gme σ), .int (gde σ), .ref (B 6), .ref (B 7)])) := ⟨_, rfl⟩
  refine V.hp gh1 ?_
  have gk1 : ∀ q : Nat, q ≠ (B 0) → h_1 q = h q := fun q hq => by rw [gh1]; exact hset_ne hq
  have gs1 : h_1 (B 0) = some (.inr (4, [.int 0, .int (uth u), .int (nI (gT σ)), .ref (B 1), .ref (B 2), .ref (B 3), .ref (B 4), .ref (B 5), .int (nI (gy σ)), .int (gme σ), .int (gde σ), .ref (B 6), .ref (B 7)])) := by rw [gh1]; exact hset_eq
  have hM1 := hM.th gs1 (fun q hq => gk1 q hq)
  have hk1 : kpB h h_1 B := kpB.one (i := 0) (by omega) (fun q hq => gk1 q hq)
  obtain ⟨h1, eh1⟩ : ∃ z, z = h_1 := ⟨_, rfl⟩
  rw [← eh1] at hM1 hk1 ⊢
  refine V.run hF [(.iload_n 1, 1, .null)] (pc' := 6) (L' := [some (.ref (B 0)), some (.int v)]) (st' := [.int v]) (by decide +kernel) rfl ?_
  refine V.callS (As := [.int v]) (st := []) hG hF k_RX4_90 (by decide +kernel) (c_X4_isPerson hG v) rfl ⟨by rw [hRm]; decide, by rw [hRm]; decide⟩ (Nat.le_of_ble_eq_true rfl) rfl (fun v h_2 gp2 => ?_) (fun E h9 hx => hx.elim)
  obtain ⟨rfl, he_gp2⟩ := gp2
  rw [he_gp2]
  show V G F _ _ _ 9 [some (.ref (B 0)), some (.int v)] [.int (tf (inP v))] h1
  refine V.if_ne hF (off := 9) (tgt := 18) (by decide +kernel) (by decide) (fun c1 => ?_) (fun c1 => ?_)
  · skip
    obtain ⟨p, hp8, rfl⟩ := inP_of (tf_1 c1)
    have ep : (nI p).toNatClampNeg = p := nI_clamp (by omega)
    refine V.run hF [(.aload_n 0, 1, .null)] (pc' := 19) (L' := [some (.ref (B 0)), some (.int (nI p))]) (st' := [.ref (B 0)]) (by decide +kernel) rfl ?_
    refine V.callV (As := []) (st := []) hG hF k_RX4_126 (by decide +kernel) (c_X4_balances hG hM1 hR) hM1.2.1 rfl rfl ⟨by rw [hRm]; decide, by rw [hRm]; decide⟩ (Nat.le_of_ble_eq_true rfl) rfl (fun v' h2 hp => ?_) (fun E h9 hx => hx.elim)
    obtain ⟨rfl, g, hg, hM2, hk2⟩ := hp
    show V G F _ _ _ 22 [some (.ref (B 0)), some (.int (nI p))] [] h2
    refine V.run hF [(.aload_n 0, 1, .null)] (pc' := 23) (L' := [some (.ref (B 0)), some (.int (nI p))]) (st' := [.ref (B 0)]) (by decide +kernel) rfl ?_
    refine V.getf hG hF k_RX4_33 (by decide +kernel) hM2.2.1 rfl ?_
    refine V.run hF [(.iload_n 1, 1, .null)] (pc' := 27) (L' := [some (.ref (B 0)), some (.int (nI p))]) (st' := [.int (nI p), .ref (B 7)]) (by decide +kernel) rfl ?_
    refine V.ialdN (j := p) hG hF (by decide +kernel) hM2.2.2.2.2.2.2.2.2 (by omega) (by decide) ?_
    exact V.reti hF (by decide +kernel) ⟨0, _, rfl, Or.inl ⟨tf_1 c1, rfl, by rw [ep, hg p hp8]⟩, _, _, hM2, hk1.tr hk2⟩
  · skip
    refine V.run hF [(.aload_n 0, 1, .null), (.iconst 1, 1, .int 1)] (pc' := 14) (L' := [some (.ref (B 0)), some (.int v)]) (st' := [.int 1, .ref (B 0)]) (by decide +kernel) rfl ?_
    refine V.callV (As := [.int 1]) (st := []) hG hF k_RX4_86 (by decide +kernel) (c_X4_fail hG hM1 1) hM1.2.1 rfl rfl ⟨by rw [hRm]; decide, by rw [hRm]; decide⟩ (Nat.le_of_ble_eq_true rfl) rfl (fun v h2 hp => ?_) (fun E h9 hx => hx.elim)
    obtain ⟨rfl, hM2, hk2⟩ := hp
    show V G F _ _ _ 17 [some (.ref (B 0)), some (.int v)] [.int 0] h2
    exact V.reti hF (by decide +kernel) ⟨1, 0, rfl, Or.inr ⟨tf_0 c1, rfl⟩, _, _, hM2, hk1.tr hk2⟩
set_option maxHeartbeats 4000000 in
theorem c_X4_atRisk (hG : GOk G) (hM : MO h B σ x u md hs) (hR : RM σ u) (v : Int32) : Ct G yX4_atRisk (.code yX4_atRisk cX4_atRisk 2 (some .int)) 3 68 0 0 [.ref (B 0), .int v] h (mq B σ u h (inP v) (if gth σ v.toNatClampNeg = 0 then 0 else gRk σ (nI v.toNatClampNeg) (gT σ))) pxN := by
  refine Ct.of (by decide +kernel) (Nat.le_of_ble_eq_true rfl) fun F hF hT hN hRm => ?_
  have h8 := hR.1
  refine V.run hF [(.aload_n 0, 1, .null), (.iconst 0, 1, .int 0)] (pc' := 2) (L' := [some (.ref (B 0)), some (.int v)]) (st' := [.int 0, .ref (B 0)]) (by decide +kernel) rfl ?_
  refine V.putf hG hF k_RX4_36 (by decide +kernel) hM.2.1 (fun C T N hc => by cases hc; exact ⟨rfl, .int, by decide +kernel, rfl, rfl⟩) (Nat.le_of_ble_eq_true rfl) ?_
  obtain ⟨h_1, gh1⟩ : ∃ z : Hp, z = hset h (B 0) (.inr (4, [.int 0, .int (uth u), .int (nI (gT σ)), .ref (B 1), .ref (B 2), .ref (B 3), .ref (B 4), .ref (B 5), .int (nI (gy σ)), .int (gme σ), .int (gde σ), .ref (B 6), .ref (B 7)])) := ⟨_, rfl⟩
  refine V.hp gh1 ?_
  have gk1 : ∀ q : Nat, q ≠ (B 0) → h_1 q = h q := fun q hq => by rw [gh1]; exact hset_ne hq
  have gs1 : h_1 (B 0) = some (.inr (4, [.int 0, .int (uth u), .int (nI (gT σ)), .ref (B 1), .ref (B 2), .ref (B 3), .ref (B 4), .ref (B 5), .int (nI (gy σ)), .int (gme σ), .int (gde σ), .ref (B 6), .ref (B 7)])) := by rw [gh1]; exact hset_eq
  have hM1 := hM.th gs1 (fun q hq => gk1 q hq)
  have hk1 : kpB h h_1 B := kpB.one (i := 0) (by omega) (fun q hq => gk1 q hq)
  obtain ⟨h1, eh1⟩ : ∃ z, z = h_1 := ⟨_, rfl⟩
  rw [← eh1] at hM1 hk1 ⊢
  refine V.run hF [(.iload_n 1, 1, .null)] (pc' := 6) (L' := [some (.ref (B 0)), some (.int v)]) (st' := [.int v]) (by decide +kernel) rfl ?_
  refine V.callS (As := [.int v]) (st := []) hG hF k_RX4_90 (by decide +kernel) (c_X4_isPerson hG v) rfl ⟨by rw [hRm]; decide, by rw [hRm]; decide⟩ (Nat.le_of_ble_eq_true rfl) rfl (fun v h_2 gp2 => ?_) (fun E h9 hx => hx.elim)
  obtain ⟨rfl, he_gp2⟩ := gp2
  rw [he_gp2]
  show V G F _ _ _ 9 [some (.ref (B 0)), some (.int v)] [.int (tf (inP v))] h1
  refine V.if_eq hF (off := 11) (tgt := 20) (by decide +kernel) (by decide) (fun c1 => ?_) (fun c1 => ?_)
  · skip
    refine V.run hF [(.aload_n 0, 1, .null), (.iconst 1, 1, .int 1)] (pc' := 22) (L' := [some (.ref (B 0)), some (.int v)]) (st' := [.int 1, .ref (B 0)]) (by decide +kernel) rfl ?_
    refine V.callV (As := [.int 1]) (st := []) hG hF k_RX4_86 (by decide +kernel) (c_X4_fail hG hM1 1) hM1.2.1 rfl rfl ⟨by rw [hRm]; decide, by rw [hRm]; decide⟩ (Nat.le_of_ble_eq_true rfl) rfl (fun v h2 hp => ?_) (fun E h9 hx => hx.elim)
    obtain ⟨rfl, hM2, hk2⟩ := hp
    show V G F _ _ _ 25 [some (.ref (B 0)), some (.int v)] [.int 0] h2
    exact V.reti hF (by decide +kernel) ⟨1, 0, rfl, Or.inr ⟨tf_0 c1, rfl⟩, _, _, hM2, hk1.tr hk2⟩
  · skip
    obtain ⟨p, hp8, rfl⟩ := inP_of (tf_1 c1)
    have ep : (nI p).toNatClampNeg = p := nI_clamp (by omega)
    refine V.run hF [(.aload_n 0, 1, .null), (.iload_n 1, 1, .null)] (pc' := 14) (L' := [some (.ref (B 0)), some (.int (nI p))]) (st' := [.int (nI p), .ref (B 0)]) (by decide +kernel) rfl ?_
    refine V.callV (As := [.int (nI p)]) (st := []) hG hF k_RX4_151 (by decide +kernel) (c_X4_risk hG hM1 hR hp8) hM1.2.1 rfl rfl ⟨by rw [hRm]; decide, by rw [hRm]; decide⟩ (Nat.le_of_ble_eq_true rfl) rfl (fun v h_4 gp4 => ?_) (fun E h9 hx => hx.elim)
    obtain ⟨rfl, he_gp4⟩ := gp4
    rw [he_gp4]
    show V G F _ _ _ 17 [some (.ref (B 0)), some (.int (nI p))] [.int (if gth σ p = 0 then 0 else gRk σ (nI p) (gT σ))] h1
    refine V.run hF [(.goto 8, 3, .null)] (pc' := 25) (L' := [some (.ref (B 0)), some (.int (nI p))]) (st' := [.int (if gth σ p = 0 then 0 else gRk σ (nI p) (gT σ))]) (by decide +kernel) rfl ?_
    exact V.reti hF (by decide +kernel) ⟨0, _, rfl, Or.inl ⟨tf_1 c1, rfl, by rw [ep]⟩, _, _, hM1, hk1⟩
set_option maxHeartbeats 4000000 in
theorem c_X4_yearsUntilMelted (hG : GOk G) (hM : MO h B σ x u md hs) (hR : RM σ u) (hy : gy σ < 2 ^ 30) (v : Int32) : Ct G yX4_yearsUntilMelted (.code yX4_yearsUntilMelted cX4_yearsUntilMelted 2 (some .int)) 2 44 0 0 [.ref (B 0), .int v] h (mq B σ u h (inT σ v) (ytm σ v.toNatClampNeg 10 0)) pxN := by
  refine Ct.of (by decide +kernel) (Nat.le_of_ble_eq_true rfl) fun F hF hT hN hRm => ?_
  have h8 := hR.1
  refine V.run hF [(.aload_n 0, 1, .null), (.iconst 0, 1, .int 0)] (pc' := 2) (L' := [some (.ref (B 0)), some (.int v)]) (st' := [.int 0, .ref (B 0)]) (by decide +kernel) rfl ?_
  refine V.putf hG hF k_RX4_36 (by decide +kernel) hM.2.1 (fun C T N hc => by cases hc; exact ⟨rfl, .int, by decide +kernel, rfl, rfl⟩) (Nat.le_of_ble_eq_true rfl) ?_
  obtain ⟨h_1, gh1⟩ : ∃ z : Hp, z = hset h (B 0) (.inr (4, [.int 0, .int (uth u), .int (nI (gT σ)), .ref (B 1), .ref (B 2), .ref (B 3), .ref (B 4), .ref (B 5), .int (nI (gy σ)), .int (gme σ), .int (gde σ), .ref (B 6), .ref (B 7)])) := ⟨_, rfl⟩
  refine V.hp gh1 ?_
  have gk1 : ∀ q : Nat, q ≠ (B 0) → h_1 q = h q := fun q hq => by rw [gh1]; exact hset_ne hq
  have gs1 : h_1 (B 0) = some (.inr (4, [.int 0, .int (uth u), .int (nI (gT σ)), .ref (B 1), .ref (B 2), .ref (B 3), .ref (B 4), .ref (B 5), .int (nI (gy σ)), .int (gme σ), .int (gde σ), .ref (B 6), .ref (B 7)])) := by rw [gh1]; exact hset_eq
  have hM1 := hM.th gs1 (fun q hq => gk1 q hq)
  have hk1 : kpB h h_1 B := kpB.one (i := 0) (by omega) (fun q hq => gk1 q hq)
  obtain ⟨h1, eh1⟩ : ∃ z, z = h_1 := ⟨_, rfl⟩
  rw [← eh1] at hM1 hk1 ⊢
  refine V.run hF [(.aload_n 0, 1, .null), (.iload_n 1, 1, .null)] (pc' := 7) (L' := [some (.ref (B 0)), some (.int v)]) (st' := [.int v, .ref (B 0)]) (by decide +kernel) rfl ?_
  refine V.callV (As := [.int v]) (st := []) hG hF k_RX4_46 (by decide +kernel) (c_X4_isTablet hG hM1 hR.1 v) hM1.2.1 rfl rfl ⟨by rw [hRm]; decide, by rw [hRm]; decide⟩ (Nat.le_of_ble_eq_true rfl) rfl (fun v h_2 gp2 => ?_) (fun E h9 hx => hx.elim)
  obtain ⟨rfl, he_gp2⟩ := gp2
  rw [he_gp2]
  show V G F _ _ _ 10 [some (.ref (B 0)), some (.int v)] [.int (tf (inT σ v))] h1
  refine V.if_eq hF (off := 11) (tgt := 21) (by decide +kernel) (by decide) (fun c1 => ?_) (fun c1 => ?_)
  · skip
    refine V.run hF [(.aload_n 0, 1, .null), (.iconst 1, 1, .int 1)] (pc' := 23) (L' := [some (.ref (B 0)), some (.int v)]) (st' := [.int 1, .ref (B 0)]) (by decide +kernel) rfl ?_
    refine V.callV (As := [.int 1]) (st := []) hG hF k_RX4_86 (by decide +kernel) (c_X4_fail hG hM1 1) hM1.2.1 rfl rfl ⟨by rw [hRm]; decide, by rw [hRm]; decide⟩ (Nat.le_of_ble_eq_true rfl) rfl (fun v h2 hp => ?_) (fun E h9 hx => hx.elim)
    obtain ⟨rfl, hM2, hk2⟩ := hp
    show V G F _ _ _ 26 [some (.ref (B 0)), some (.int v)] [.int 0] h2
    exact V.reti hF (by decide +kernel) ⟨1, 0, rfl, Or.inr ⟨tf_0 c1, rfl⟩, _, _, hM2, hk1.tr hk2⟩
  · skip
    obtain ⟨t, ht, rfl⟩ := (inT_iff hR.1).mp (tf_1 c1)
    have et : (nI t).toNatClampNeg = t := nI_clamp (by omega)
    obtain ⟨ea, eb, ez, em, en, -⟩ := hR.2.2.2.1 t ht
    refine V.run hF [(.aload_n 0, 1, .null), (.iload_n 1, 1, .null)] (pc' := 15) (L' := [some (.ref (B 0)), some (.int (nI t))]) (st' := [.int (nI t), .ref (B 0)]) (by decide +kernel) rfl ?_
    refine V.callV (As := [.int (nI t)]) (st := []) hG hF k_RX4_154 (by decide +kernel) (c_X4_until hG hM1 hR hy ht) hM1.2.1 rfl rfl ⟨by rw [hRm]; decide, by rw [hRm]; decide⟩ (Nat.le_of_ble_eq_true rfl) rfl (fun v h_4 gp4 => ?_) (fun E h9 hx => hx.elim)
    obtain ⟨rfl, he_gp4⟩ := gp4
    rw [he_gp4]
    show V G F _ _ _ 18 [some (.ref (B 0)), some (.int (nI t))] [.int (ytm σ t 10 0)] h1
    refine V.run hF [(.goto 8, 3, .null)] (pc' := 26) (L' := [some (.ref (B 0)), some (.int (nI t))]) (st' := [.int (ytm σ t 10 0)]) (by decide +kernel) rfl ?_
    exact V.reti hF (by decide +kernel) ⟨0, _, rfl, Or.inl ⟨tf_1 c1, rfl, by rw [et]⟩, _, _, hM1, hk1⟩
set_option maxHeartbeats 4000000 in
theorem c_X4_meltsIn (hG : GOk G) (hM : MO h B σ x u md hs) (hR : RM σ u) (hy : gy σ < 2 ^ 30) (v : Int32) : Ct G yX4_meltsIn (.code yX4_meltsIn cX4_meltsIn 2 (some .int)) 3 70 0 0 [.ref (B 0), .int v] h (mq B σ u h (¬ v < 1 ∧ ¬ nI 40 < v) (gMI σ v (gT σ))) pxN := by
  refine Ct.of (by decide +kernel) (Nat.le_of_ble_eq_true rfl) fun F hF hT hN hRm => ?_
  have h8 := hR.1
  refine V.run hF [(.aload_n 0, 1, .null), (.iconst 0, 1, .int 0)] (pc' := 2) (L' := [some (.ref (B 0)), some (.int v)]) (st' := [.int 0, .ref (B 0)]) (by decide +kernel) rfl ?_
  refine V.putf hG hF k_RX4_36 (by decide +kernel) hM.2.1 (fun C T N hc => by cases hc; exact ⟨rfl, .int, by decide +kernel, rfl, rfl⟩) (Nat.le_of_ble_eq_true rfl) ?_
  obtain ⟨h_1, gh1⟩ : ∃ z : Hp, z = hset h (B 0) (.inr (4, [.int 0, .int (uth u), .int (nI (gT σ)), .ref (B 1), .ref (B 2), .ref (B 3), .ref (B 4), .ref (B 5), .int (nI (gy σ)), .int (gme σ), .int (gde σ), .ref (B 6), .ref (B 7)])) := ⟨_, rfl⟩
  refine V.hp gh1 ?_
  have gk1 : ∀ q : Nat, q ≠ (B 0) → h_1 q = h q := fun q hq => by rw [gh1]; exact hset_ne hq
  have gs1 : h_1 (B 0) = some (.inr (4, [.int 0, .int (uth u), .int (nI (gT σ)), .ref (B 1), .ref (B 2), .ref (B 3), .ref (B 4), .ref (B 5), .int (nI (gy σ)), .int (gme σ), .int (gde σ), .ref (B 6), .ref (B 7)])) := by rw [gh1]; exact hset_eq
  have hM1 := hM.th gs1 (fun q hq => gk1 q hq)
  have hk1 : kpB h h_1 B := kpB.one (i := 0) (by omega) (fun q hq => gk1 q hq)
  obtain ⟨h1, eh1⟩ : ∃ z, z = h_1 := ⟨_, rfl⟩
  rw [← eh1] at hM1 hk1 ⊢
  refine V.run hF [(.iload_n 1, 1, .null), (.iconst 1, 1, .int 1), (.bipush 40, 2, .int (nI 40))] (pc' := 9) (L' := [some (.ref (B 0)), some (.int v)]) (st' := [.int (nI 40), .int 1, .int v]) (by decide +kernel) rfl ?_
  refine V.callS (As := [.int v, .int 1, .int (nI 40)]) (st := []) hG hF k_RX4_39 (by decide +kernel) (c_X4_isIn v 1 (nI 40)) rfl ⟨by rw [hRm]; decide, by rw [hRm]; decide⟩ (Nat.le_of_ble_eq_true rfl) rfl (fun v h_2 gp2 => ?_) (fun E h9 hx => hx.elim)
  obtain ⟨rfl, he_gp2⟩ := gp2
  rw [he_gp2]
  show V G F _ _ _ 12 [some (.ref (B 0)), some (.int v)] [.int (tf (¬ v < 1 ∧ ¬ nI 40 < v))] h1
  refine V.if_eq hF (off := 11) (tgt := 23) (by decide +kernel) (by decide) (fun c1 => ?_) (fun c1 => ?_)
  · skip
    refine V.run hF [(.aload_n 0, 1, .null), (.iconst 1, 1, .int 1)] (pc' := 25) (L' := [some (.ref (B 0)), some (.int v)]) (st' := [.int 1, .ref (B 0)]) (by decide +kernel) rfl ?_
    refine V.callV (As := [.int 1]) (st := []) hG hF k_RX4_86 (by decide +kernel) (c_X4_fail hG hM1 1) hM1.2.1 rfl rfl ⟨by rw [hRm]; decide, by rw [hRm]; decide⟩ (Nat.le_of_ble_eq_true rfl) rfl (fun v h2 hp => ?_) (fun E h9 hx => hx.elim)
    obtain ⟨rfl, hM2, hk2⟩ := hp
    show V G F _ _ _ 28 [some (.ref (B 0)), some (.int v)] [.int 0] h2
    exact V.reti hF (by decide +kernel) ⟨1, 0, rfl, Or.inr ⟨tf_0 c1, rfl⟩, _, _, hM2, hk1.tr hk2⟩
  · skip
    refine V.run hF [(.aload_n 0, 1, .null), (.iload_n 1, 1, .null)] (pc' := 17) (L' := [some (.ref (B 0)), some (.int v)]) (st' := [.int v, .ref (B 0)]) (by decide +kernel) rfl ?_
    refine V.callV (As := [.int v]) (st := []) hG hF k_RX4_157 (by decide +kernel) (c_X4_meltIn hG hM1 hR hy v) hM1.2.1 rfl rfl ⟨by rw [hRm]; decide, by rw [hRm]; decide⟩ (Nat.le_of_ble_eq_true rfl) rfl (fun v h_4 gp4 => ?_) (fun E h9 hx => hx.elim)
    obtain ⟨rfl, he_gp4⟩ := gp4
    rw [he_gp4]
    show V G F _ _ _ 20 [some (.ref (B 0)), some (.int v)] [.int (gMI σ v (gT σ))] h1
    refine V.run hF [(.goto 8, 3, .null)] (pc' := 28) (L' := [some (.ref (B 0)), some (.int v)]) (st' := [.int (gMI σ v (gT σ))]) (by decide +kernel) rfl ?_
    exact V.reti hF (by decide +kernel) ⟨0, _, rfl, Or.inl ⟨tf_1 c1, rfl, rfl⟩, _, _, hM1, hk1⟩
end Mr