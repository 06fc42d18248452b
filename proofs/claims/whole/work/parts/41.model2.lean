/-! ===== TallyWaxModel: its private parts ===== -/
section Mp
variable {G : Gt} {h : Hp} {B : Nat → Nat} {σ : Sg} {x : Int32} {u : Mu} {md hs : Nat → Int32}
set_option maxHeartbeats 4000000 in
theorem c_X4_is (hG : GOk G) (hM : MO h B σ x u md hs) (hR : RM σ u) {p : Nat} (hp : p < 8) : Ct G yX4_is (.code yX4_is cX4_is 2 (some .boolean)) 0 0 0 0 [.ref (B 0), .int (nI p)] h (is_i (gth σ p) h) pxN := by
  refine Ct.of (by decide +kernel) (Nat.le_of_ble_eq_true rfl) fun F hF hT hN hRm => ?_
  obtain ⟨e1, e2⟩ := hR.2.1 p hp
  refine V.run hF [(.aload_n 0, 1, .null)] (pc' := 1) (L' := [some (.ref (B 0)), some (.int (nI p))]) (st' := [.ref (B 0)]) (by decide +kernel) rfl ?_
  refine V.getf hG hF k_RX4_7 (by decide +kernel) hM.2.1 rfl ?_
  refine V.run hF [(.iload_n 1, 1, .null), (.ishr, 1, .null), (.iconst 1, 1, .int 1), (.iand, 1, .null), (.iconst 1, 1, .int 1)] (pc' := 9) (L' := [some (.ref (B 0)), some (.int (nI p))]) (st' := [.int 1, .int (((uth u) >>> ((nI p) &&& 31)) &&& 1)]) (by decide +kernel) rfl ?_
  refine V.icmp_ne hF (off := 7) (tgt := 16) (by decide +kernel) (by decide) (fun c1 => ?_) (fun c1 => ?_)
  · have e3 : gth σ p = 0 := by
      rcases e2 with e2 | e2
      · exact e2
      · exact absurd (e1.trans e2) c1
    refine V.run hF [(.iconst 0, 1, .int 0)] (pc' := 17) (L' := [some (.ref (B 0)), some (.int (nI p))]) (st' := [.int 0]) (by decide +kernel) rfl ?_
    exact V.retz hF (by decide +kernel) rfl ⟨by rw [e3], rfl⟩
  · skip
    have e3 : gth σ p = 1 := e1.symm.trans c1
    refine V.run hF [(.iconst 1, 1, .int 1), (.goto 4, 3, .null)] (pc' := 17) (L' := [some (.ref (B 0)), some (.int (nI p))]) (st' := [.int 1]) (by decide +kernel) rfl ?_
    exact V.retz hF (by decide +kernel) rfl ⟨by rw [e3], rfl⟩
theorem c_X4_at (t l : Nat) : Ct G yX4_at (.code yX4_at cX4_at 2 (some .int)) 0 0 0 0 [.int (nI t), .int (nI l)] h (is_i (nI (48 * t + 4 * l)) h) pxN := by
  refine Ct.of (by decide +kernel) (Nat.le_of_ble_eq_true rfl) fun F hF hT hN hRm => ?_
  refine V.run hF [(.iconst 4, 1, .int (nI 4)), (.bipush 12, 2, .int (nI 12)), (.iload_n 0, 1, .null), (.imul, 1, .null), (.iload_n 1, 1, .null), (.iadd, 1, .null), (.imul, 1, .null)] (pc' := 8) (L' := [some (.int (nI t)), some (.int (nI l))]) (st' := [.int (nI 4 * ((nI 12 * nI t) + nI l))]) (by decide +kernel) rfl ?_
  exact V.reti hF (by decide +kernel) ⟨by rw [pk_mul, nI_add, pk_mul, show 4 * (12 * t + l) = 48 * t + 4 * l by omega], rfl⟩
theorem c_X4_of (hG : GOk G) (hM : MO h B σ x u md hs) {t l w : Nat} (ht : t < 8) (hl : l < 12) (hw : w < 4) {z : Int32} (ez : z = nI w) : Ct G yX4_of (.code yX4_of cX4_of 4 (some .int)) 1 21 0 0 [.ref (B 0), .int (nI t), .int (nI l), .int z] h (is_i (uli u (48 * t + 4 * l + w)) h) pxN := by
  refine Ct.of (by decide +kernel) (Nat.le_of_ble_eq_true rfl) fun F hF hT hN hRm => ?_
  subst ez
  refine V.run hF [(.aload_n 0, 1, .null)] (pc' := 1) (L' := [some (.ref (B 0)), some (.int (nI t)), some (.int (nI l)), some (.int (nI w))]) (st' := [.ref (B 0)]) (by decide +kernel) rfl ?_
  refine V.getf hG hF k_RX4_24 (by decide +kernel) hM.2.1 rfl ?_
  refine V.run hF [(.iload_n 1, 1, .null), (.iload_n 2, 1, .null)] (pc' := 6) (L' := [some (.ref (B 0)), some (.int (nI t)), some (.int (nI l)), some (.int (nI w))]) (st' := [.int (nI l), .int (nI t), .ref (B 4)]) (by decide +kernel) rfl ?_
  refine V.callS (As := [.int (nI t), .int (nI l)]) (st := [.ref (B 4)]) hG hF k_RX4_50 (by decide +kernel) (c_X4_at t l) rfl ⟨by rw [hRm]; decide, by rw [hRm]; decide⟩ (Nat.le_of_ble_eq_true rfl) rfl (fun v h_1 gp1 => ?_) (fun E h9 hx => hx.elim)
  obtain ⟨rfl, he_gp1⟩ := gp1
  rw [he_gp1]
  show V G F _ _ _ 9 [some (.ref (B 0)), some (.int (nI t)), some (.int (nI l)), some (.int (nI w))] [.int (nI (48 * t + 4 * l)), .ref (B 4)] h
  refine V.run hF [(.iload_n 3, 1, .null), (.iadd, 1, .null)] (pc' := 11) (L' := [some (.ref (B 0)), some (.int (nI t)), some (.int (nI l)), some (.int (nI w))]) (st' := [.int (nI (48 * t + 4 * l) + nI w), .ref (B 4)]) (by decide +kernel) rfl ?_
  rw [nI_add]
  refine V.ialdN (j := 48 * t + 4 * l + w) hG hF (by decide +kernel) hM.2.2.2.2.2.1 (by omega) (by decide) ?_
  exact V.reti hF (by decide +kernel) ⟨rfl, rfl⟩
section row
variable {t l : Nat}
theorem RM.row (hR : RM σ u) (ht : t < gT σ) (hl : l < gn σ t) : t < 8 ∧ l < 12 ∧ uli u (48 * t + 4 * l) = gDD σ t l ∧ uli u (48 * t + 4 * l + 1) = gC σ t l ∧ uli u (48 * t + 4 * l + 2) = gM σ t l ∧ uli u (48 * t + 4 * l + 3) = gW σ t l ∧ inP (gDD σ t l) ∧ inP (gC σ t l) ∧ inP (gW σ t l) ∧ gDD σ t l ≠ gC σ t l := by
  have h8 := hR.1
  obtain ⟨-, -, -, -, e2, e3⟩ := hR.2.2.2.1 t ht
  exact ⟨by omega, by omega, e3 l hl⟩
theorem c_X4_ofD (hG : GOk G) (hM : MO h B σ x u md hs) (hR : RM σ u) (ht : t < gT σ) (hl : l < gn σ t) : Ct G yX4_of (.code yX4_of cX4_of 4 (some .int)) 1 21 0 0 [.ref (B 0), .int (nI t), .int (nI l), .int 0] h (is_i (gDD σ t l) h) pxN := by
  obtain ⟨e1, e2, e3, -⟩ := hR.row ht hl
  have := c_X4_of (w := 0) hG hM e1 e2 (by decide) (z := 0) rfl
  rw [Nat.add_zero, e3] at this
  exact this
theorem c_X4_ofC (hG : GOk G) (hM : MO h B σ x u md hs) (hR : RM σ u) (ht : t < gT σ) (hl : l < gn σ t) : Ct G yX4_of (.code yX4_of cX4_of 4 (some .int)) 1 21 0 0 [.ref (B 0), .int (nI t), .int (nI l), .int 1] h (is_i (gC σ t l) h) pxN := by
  obtain ⟨e1, e2, -, e3, -⟩ := hR.row ht hl
  have := c_X4_of (w := 1) hG hM e1 e2 (by decide) (z := 1) rfl
  rw [e3] at this
  exact this
theorem c_X4_ofM (hG : GOk G) (hM : MO h B σ x u md hs) (hR : RM σ u) (ht : t < gT σ) (hl : l < gn σ t) : Ct G yX4_of (.code yX4_of cX4_of 4 (some .int)) 1 21 0 0 [.ref (B 0), .int (nI t), .int (nI l), .int 2] h (is_i (gM σ t l) h) pxN := by
  obtain ⟨e1, e2, -, -, e3, -⟩ := hR.row ht hl
  have := c_X4_of (w := 2) hG hM e1 e2 (by decide) (z := 2) rfl
  rw [e3] at this
  exact this
theorem c_X4_ofW (hG : GOk G) (hM : MO h B σ x u md hs) (hR : RM σ u) (ht : t < gT σ) (hl : l < gn σ t) : Ct G yX4_of (.code yX4_of cX4_of 4 (some .int)) 1 21 0 0 [.ref (B 0), .int (nI t), .int (nI l), .int 3] h (is_i (gW σ t l) h) pxN := by
  obtain ⟨e1, e2, -, -, -, e3, -⟩ := hR.row ht hl
  have := c_X4_of (w := 3) hG hM e1 e2 (by decide) (z := 3) rfl
  rw [e3] at this
  exact this
end row
set_option maxHeartbeats 4000000 in
theorem c_X4_clear (hG : GOk G) (hM : MO h B σ x u md hs) : Ct G yX4_clear (.code yX4_clear cX4_clear 2 none) 0 0 0 0 [.ref (B 0)] h (is_v fun h' => MO h' B σ x u md (mxk 8 (fun _ => 0) hs) ∧ kpB h h' B) pxN := by
  refine Ct.of (by decide +kernel) (Nat.le_of_ble_eq_true rfl) fun F hF hT hN hRm => ?_
  have loop : ∀ k, k ≤ 8 → ∀ h1 : Hp, MO h1 B σ x u md (mxk k (fun _ => 0) hs) → kpB h h1 B → V G F (fin G F (is_v fun h' => MO h' B σ x u md (mxk 8 (fun _ => 0) hs) ∧ kpB h h' B) pxN) 0 0 2 [some (.ref (B 0)), some (.int (nI k))] [] h1 := by
    refine lp_up 8 fun k hk ih => ?_
    intro h1 hM1 hk1
    refine V.run hF [(.iload_n 1, 1, .null), (.bipush 8, 2, .int (nI 8))] (pc' := 5) (L' := [some (.ref (B 0)), some (.int (nI k))]) (st' := [.int (nI 8), .int (nI k)]) (by decide +kernel) rfl ?_
    refine V.icmpN_ge (i := k) (j := 8) hF (off := 16) (tgt := 21) (by decide +kernel) (by decide) (by omega) (by omega) (fun c1 => ?_) (fun c1 => ?_)
    · have e : k = 8 := by omega
      rw [e] at hM1
      exact V.retv hF (by decide +kernel) ⟨rfl, hM1, hk1⟩
    · skip
      refine V.run hF [(.aload_n 0, 1, .null)] (pc' := 9) (L' := [some (.ref (B 0)), some (.int (nI k))]) (st' := [.ref (B 0)]) (by decide +kernel) rfl ?_
      refine V.getf hG hF k_RX4_33 (by decide +kernel) hM1.2.1 rfl ?_
      refine V.run hF [(.iload_n 1, 1, .null), (.iconst 0, 1, .int 0)] (pc' := 14) (L' := [some (.ref (B 0)), some (.int (nI k))]) (st' := [.int 0, .int (nI k), .ref (B 7)]) (by decide +kernel) rfl ?_
      refine V.iastN (j := k) hG hF (by decide +kernel) hM1.2.2.2.2.2.2.2.2 (by omega) (by decide) ?_
      obtain ⟨h_1, gh1⟩ : ∃ z : Hp, z = hset h1 (B 7) (.inl (0, 8, .inl (upd (mxk k (fun _ => 0) hs) k 0))) := ⟨_, rfl⟩
      refine V.hp gh1 ?_
      have gk1 : ∀ q : Nat, q ≠ (B 7) → h_1 q = h1 q := fun q hq => by rw [gh1]; exact hset_ne hq
      have gs1 : h_1 (B 7) = some (.inl (0, 8, .inl (upd (mxk k (fun _ => 0) hs) k 0))) := by rw [gh1]; exact hset_eq
      refine V.run hF [(.iinc 1 1, 3, .int 1), (.goto (-16), 3, .null)] (pc' := 2) (L' := [some (.ref (B 0)), some (.int ((nI k) + 1))]) (st' := []) (by decide +kernel) rfl ?_
      rw [nI_1 k]
      exact ih c1 h_1 (hM1.chs (gs1.trans (by rw [← mxk_s])) (fun q hq => gk1 q hq)) (hk1.tr (kpB.one (i := 7) (by omega) (fun q hq => gk1 q hq)))
  refine V.run hF [(.iconst 0, 1, .int (nI 0)), (.istore_n 1, 1, .null)] (pc' := 2) (L' := [some (.ref (B 0)), some (.int (nI 0))]) (st' := []) (by decide +kernel) rfl ?_
  exact loop 0 (Nat.zero_le _) h (by rw [mxk_0]; exact hM) kpB.rf
theorem i_sub (a b c : Int32) : a + (b - c) = a + b - c := by rw [Int32.sub_eq_add_neg, Int32.sub_eq_add_neg, Int32.add_assoc]
theorem upd_n {f : Nat → Int32} {k j : Nat} {v : Int32} (h : j ≠ k) : upd f k v j = f j := if_neg h
set_option maxHeartbeats 4000000 in
theorem c_X4_balance (hG : GOk G) (hM : MO h B σ x u md hs) (hR : RM σ u) {t : Nat} (ht : t < gT σ) : Ct G yX4_balance (.code yX4_balance cX4_balance 3 none) 2 44 0 0 [.ref (B 0), .int (nI t)] h (is_v fun h' => ∃ g, (∀ p, p < 8 → g p = hs p + gbal σ t p) ∧ MO h' B σ x u md g ∧ kpB h h' B) pxN := by
  refine Ct.of (by decide +kernel) (Nat.le_of_ble_eq_true rfl) fun F hF hT hN hRm => ?_
  have h8 := hR.1
  obtain ⟨-, -, -, em, en, -⟩ := hR.2.2.2.1 t ht
  have n07 : B 0 ≠ B 7 := hM.1.ne (by omega) (by omega) (by omega)
  have n37 : B 3 ≠ B 7 := hM.1.ne (by omega) (by omega) (by omega)
  have loop : ∀ l, l ≤ gn σ t → ∀ (h1 : Hp) (g : Nat → Int32), (∀ p, p < 8 → g p = hs p + balN (gDD σ t) (gC σ t) (gM σ t) l p) → MO h1 B σ x u md g → kpB h h1 B → V G F (fin G F (is_v fun h' => ∃ g, (∀ p, p < 8 → g p = hs p + gbal σ t p) ∧ MO h' B σ x u md g ∧ kpB h h' B) pxN) 0 0 2 [some (.ref (B 0)), some (.int (nI t)), some (.int (nI l))] [] h1 := by
    refine lp_up (gn σ t) fun l hl ih => ?_
    intro h1 g hg hM1 hk1
    refine V.run hF [(.iload_n 2, 1, .null), (.aload_n 0, 1, .null)] (pc' := 4) (L' := [some (.ref (B 0)), some (.int (nI t)), some (.int (nI l))]) (st' := [.ref (B 0), .int (nI l)]) (by decide +kernel) rfl ?_
    refine V.getf hG hF k_RX4_21 (by decide +kernel) hM1.2.1 rfl ?_
    refine V.run hF [(.iload_n 1, 1, .null)] (pc' := 8) (L' := [some (.ref (B 0)), some (.int (nI t)), some (.int (nI l))]) (st' := [.int (nI t), .ref (B 3), .int (nI l)]) (by decide +kernel) rfl ?_
    refine V.ialdN (j := t) hG hF (by decide +kernel) hM1.2.2.2.2.1 (by omega) (by decide) ?_
    rw [em]
    refine V.icmpN_ge (i := l) (j := gn σ t) hF (off := 53) (tgt := 62) (by decide +kernel) (by decide) (by omega) (by omega) (fun c1 => ?_) (fun c1 => ?_)
    · have e : l = gn σ t := by omega
      rw [e] at hg
      exact V.retv hF (by decide +kernel) ⟨rfl, g, hg, hM1, hk1⟩
    · skip
      have c1 : l < gn σ t := by omega
      obtain ⟨-, -, -, -, -, -, rD, rC, -, rN⟩ := hR.row ht c1
      obtain ⟨d, hd, ed⟩ := inP_of rD
      obtain ⟨c, hc, ec⟩ := inP_of rC
      have hdc : d ≠ c := fun q => rN (by rw [ed, ec, q])
      refine V.run hF [(.aload_n 0, 1, .null)] (pc' := 13) (L' := [some (.ref (B 0)), some (.int (nI t)), some (.int (nI l))]) (st' := [.ref (B 0)]) (by decide +kernel) rfl ?_
      refine V.getf hG hF k_RX4_33 (by decide +kernel) hM1.2.1 rfl ?_
      refine V.run hF [(.aload_n 0, 1, .null), (.iload_n 1, 1, .null), (.iload_n 2, 1, .null), (.iconst 1, 1, .int 1)] (pc' := 20) (L' := [some (.ref (B 0)), some (.int (nI t)), some (.int (nI l))]) (st' := [.int 1, .int (nI l), .int (nI t), .ref (B 0), .ref (B 7)]) (by decide +kernel) rfl ?_
      refine V.callV (As := [.int (nI t), .int (nI l), .int 1]) (st := [.ref (B 7)]) hG hF k_RX4_60 (by decide +kernel) (c_X4_ofC hG hM1 hR ht c1) hM1.2.1 rfl rfl ⟨by rw [hRm]; decide, by rw [hRm]; decide⟩ (Nat.le_of_ble_eq_true rfl) rfl (fun v h_1 gp1 => ?_) (fun E h9 hx => hx.elim)
      obtain ⟨rfl, he_gp1⟩ := gp1
      rw [he_gp1]
      show V G F _ _ _ 23 [some (.ref (B 0)), some (.int (nI t)), some (.int (nI l))] [.int (gC σ t l), .ref (B 7)] h1
      rw [ec]
      refine V.run hF [(.dup2, 1, .null)] (pc' := 24) (L' := [some (.ref (B 0)), some (.int (nI t)), some (.int (nI l))]) (st' := [.int (nI c), .ref (B 7), .int (nI c), .ref (B 7)]) (by decide +kernel) rfl ?_
      refine V.ialdN (j := c) hG hF (by decide +kernel) hM1.2.2.2.2.2.2.2.2 (by omega) (by decide) ?_
      refine V.run hF [(.aload_n 0, 1, .null), (.iload_n 1, 1, .null), (.iload_n 2, 1, .null), (.iconst 2, 1, .int 2)] (pc' := 29) (L' := [some (.ref (B 0)), some (.int (nI t)), some (.int (nI l))]) (st' := [.int 2, .int (nI l), .int (nI t), .ref (B 0), .int (g c), .int (nI c), .ref (B 7)]) (by decide +kernel) rfl ?_
      refine V.callV (As := [.int (nI t), .int (nI l), .int 2]) (st := [.int (g c), .int (nI c), .ref (B 7)]) hG hF k_RX4_60 (by decide +kernel) (c_X4_ofM hG hM1 hR ht c1) hM1.2.1 rfl rfl ⟨by rw [hRm]; decide, by rw [hRm]; decide⟩ (Nat.le_of_ble_eq_true rfl) rfl (fun v h_2 gp2 => ?_) (fun E h9 hx => hx.elim)
      obtain ⟨rfl, he_gp2⟩ := gp2
      rw [he_gp2]
      show V G F _ _ _ 32 [some (.ref (B 0)), some (.int (nI t)), some (.int (nI l))] [.int (gM σ t l), .int (g c), .int (nI c), .ref (B 7)] h1
      refine V.run hF [(.iadd, 1, .null)] (pc' := 33) (L' := [some (.ref (B 0)), some (.int (nI t)), some (.int (nI l))]) (st' := [.int (g c + gM σ t l), .int (nI c), .ref (B 7)]) (by decide +kernel) rfl ?_
      refine V.iastN (j := c) hG hF (by decide +kernel) hM1.2.2.2.2.2.2.2.2 (by omega) (by decide) ?_
      obtain ⟨h_3, gh3⟩ : ∃ z : Hp, z = hset h1 (B 7) (.inl (0, 8, .inl (upd g c (g c + gM σ t l)))) := ⟨_, rfl⟩
      refine V.hp gh3 ?_
      have gk3 : ∀ q : Nat, q ≠ (B 7) → h_3 q = h1 q := fun q hq => by rw [gh3]; exact hset_ne hq
      have gs3 : h_3 (B 7) = some (.inl (0, 8, .inl (upd g c (g c + gM σ t l)))) := by rw [gh3]; exact hset_eq
      have hM2 := hM1.chs gs3 (fun q hq => gk3 q hq)
      have hk2 := hk1.tr (kpB.one (i := 7) (by omega) (fun q hq => gk3 q hq))
      refine V.run hF [(.aload_n 0, 1, .null)] (pc' := 35) (L' := [some (.ref (B 0)), some (.int (nI t)), some (.int (nI l))]) (st' := [.ref (B 0)]) (by decide +kernel) rfl ?_
      have gf4 : h_3 (B 0) = some (.inr (4, [.int x, .int (uth u), .int (nI (gT σ)), .ref (B 1), .ref (B 2), .ref (B 3), .ref (B 4), .ref (B 5), .int (nI (gy σ)), .int (gme σ), .int (gde σ), .ref (B 6), .ref (B 7)])) := (gk3 (B 0) (by first | assumption | exact Ne.symm (by assumption) | omega)).trans hM1.2.1
      refine V.getf hG hF k_RX4_33 (by decide +kernel) gf4 rfl ?_
      refine V.run hF [(.aload_n 0, 1, .null), (.iload_n 1, 1, .null), (.iload_n 2, 1, .null), (.iconst 0, 1, .int 0)] (pc' := 42) (L' := [some (.ref (B 0)), some (.int (nI t)), some (.int (nI l))]) (st' := [.int 0, .int (nI l), .int (nI t), .ref (B 0), .ref (B 7)]) (by decide +kernel) rfl ?_
      refine V.callV (As := [.int (nI t), .int (nI l), .int 0]) (st := [.ref (B 7)]) hG hF k_RX4_60 (by decide +kernel) (c_X4_ofD hG hM2 hR ht c1) gf4 rfl rfl ⟨by rw [hRm]; decide, by rw [hRm]; decide⟩ (Nat.le_of_ble_eq_true rfl) rfl (fun v h_5 gp5 => ?_) (fun E h9 hx => hx.elim)
      obtain ⟨rfl, he_gp5⟩ := gp5
      rw [he_gp5]
      show V G F _ _ _ 45 [some (.ref (B 0)), some (.int (nI t)), some (.int (nI l))] [.int (gDD σ t l), .ref (B 7)] h_3
      rw [ed]
      refine V.run hF [(.dup2, 1, .null)] (pc' := 46) (L' := [some (.ref (B 0)), some (.int (nI t)), some (.int (nI l))]) (st' := [.int (nI d), .ref (B 7), .int (nI d), .ref (B 7)]) (by decide +kernel) rfl ?_
      refine V.ialdN (j := d) hG hF (by decide +kernel) gs3 (by omega) (by decide) ?_
      refine V.run hF [(.aload_n 0, 1, .null), (.iload_n 1, 1, .null), (.iload_n 2, 1, .null), (.iconst 2, 1, .int 2)] (pc' := 51) (L' := [some (.ref (B 0)), some (.int (nI t)), some (.int (nI l))]) (st' := [.int 2, .int (nI l), .int (nI t), .ref (B 0), .int ((upd g c (g c + gM σ t l)) d), .int (nI d), .ref (B 7)]) (by decide +kernel) rfl ?_
      refine V.callV (As := [.int (nI t), .int (nI l), .int 2]) (st := [.int ((upd g c (g c + gM σ t l)) d), .int (nI d), .ref (B 7)]) hG hF k_RX4_60 (by decide +kernel) (c_X4_ofM hG hM2 hR ht c1) gf4 rfl rfl ⟨by rw [hRm]; decide, by rw [hRm]; decide⟩ (Nat.le_of_ble_eq_true rfl) rfl (fun v h_6 gp6 => ?_) (fun E h9 hx => hx.elim)
      obtain ⟨rfl, he_gp6⟩ := gp6
      rw [he_gp6]
      show V G F _ _ _ 54 [some (.ref (B 0)), some (.int (nI t)), some (.int (nI l))] [.int (gM σ t l), .int ((upd g c (g c + gM σ t l)) d), .int (nI d), .ref (B 7)] h_3
      refine V.run hF [(.isub, 1, .null)] (pc' := 55) (L' := [some (.ref (B 0)), some (.int (nI t)), some (.int (nI l))]) (st' := [.int ((upd g c (g c + gM σ t l)) d - gM σ t l), .int (nI d), .ref (B 7)]) (by decide +kernel) rfl ?_
      refine V.iastN (j := d) hG hF (by decide +kernel) gs3 (by omega) (by decide) ?_
      obtain ⟨h_7, gh7⟩ : ∃ z : Hp, z = hset h_3 (B 7) (.inl (0, 8, .inl (upd (upd g c (g c + gM σ t l)) d ((upd g c (g c + gM σ t l)) d - gM σ t l)))) := ⟨_, rfl⟩
      refine V.hp gh7 ?_
      have gk7 : ∀ q : Nat, q ≠ (B 7) → h_7 q = h_3 q := fun q hq => by rw [gh7]; exact hset_ne hq
      have gs7 : h_7 (B 7) = some (.inl (0, 8, .inl (upd (upd g c (g c + gM σ t l)) d ((upd g c (g c + gM σ t l)) d - gM σ t l)))) := by rw [gh7]; exact hset_eq
      have hM3 := hM2.chs gs7 (fun q hq => gk7 q hq)
      have hk3 := hk2.tr (kpB.one (i := 7) (by omega) (fun q hq => gk7 q hq))
      refine V.run hF [(.iinc 2 1, 3, .int 1), (.goto (-57), 3, .null)] (pc' := 2) (L' := [some (.ref (B 0)), some (.int (nI t)), some (.int ((nI l) + 1))]) (st' := []) (by decide +kernel) rfl ?_
      rw [nI_1 l]
      refine ih c1 _ _ (fun p hp => ?_) hM3 hk3
      by_cases pd : p = d
      · rw [pd, upd_s, upd_n hdc, hg d hd]
        show hs d + _ - gM σ t l = hs d + (if gC σ t l = nI d then _ else if gDD σ t l = nI d then _ else _)
        rw [if_neg (fun q => hdc ((nI_eq (by omega) (by omega)).mp (q.symm.trans ec))), if_pos ed, i_sub]
        rfl
      · rw [upd_n pd]
        by_cases pc : p = c
        · rw [pc, upd_s, hg c hc]
          show hs c + _ + gM σ t l = hs c + (if gC σ t l = nI c then _ else if gDD σ t l = nI c then _ else _)
          rw [if_pos ec, Int32.add_assoc]
          rfl
        · rw [upd_n pc, hg p hp]
          show hs p + _ = hs p + (if gC σ t l = nI p then _ else if gDD σ t l = nI p then _ else _)
          rw [if_neg (fun q => pc ((nI_eq (by omega) (by omega)).mp (q.symm.trans ec))), if_neg (fun q => pd ((nI_eq (by omega) (by omega)).mp (q.symm.trans ed)))]
          rfl
  refine V.run hF [(.iconst 0, 1, .int (nI 0)), (.istore_n 2, 1, .null)] (pc' := 2) (L' := [some (.ref (B 0)), some (.int (nI t)), some (.int (nI 0))]) (st' := []) (by decide +kernel) rfl ?_
  exact loop 0 (Nat.zero_le _) h hs (fun p _ => (Int32.add_zero _).symm) hM kpB.rf
set_option maxHeartbeats 4000000 in
theorem c_X4_exMax (hG : GOk G) (hM : MO h B σ x u md hs) : Ct G yX4_extreme (.code yX4_extreme cX4_extreme 4 (some .int)) 0 0 0 0 [.ref (B 0), .int 1] h (is_i (nI (pmax hs 7)) h) pxN := by
  refine Ct.of (by decide +kernel) (Nat.le_of_ble_eq_true rfl) fun F hF hT hN hRm => ?_
  have loop : ∀ i, i ≤ 7 → V G F (fin G F (is_i (nI (pmax hs 7)) h) pxN) 0 0 4 [some (.ref (B 0)), some (.int 1), some (.int (nI (pmax hs i))), some (.int (nI (i + 1)))] [] h := by
    refine lp_up 7 fun i hi ih => ?_
    have hm := pmax_le hs i
    refine V.run hF [(.iload_n 3, 1, .null), (.bipush 8, 2, .int (nI 8))] (pc' := 7) (L' := [some (.ref (B 0)), some (.int 1), some (.int (nI (pmax hs i))), some (.int (nI (i + 1)))]) (st' := [.int (nI 8), .int (nI (i + 1))]) (by decide +kernel) rfl ?_
    refine V.icmpN_ge (i := i + 1) (j := 8) hF (off := 48) (tgt := 55) (by decide +kernel) (by decide) (by omega) (by omega) (fun c1 => ?_) (fun c1 => ?_)
    · have ei : i = 7 := by omega
      refine V.run hF [(.iload_n 2, 1, .null)] (pc' := 56) (L' := [some (.ref (B 0)), some (.int 1), some (.int (nI (pmax hs i))), some (.int (nI (i + 1)))]) (st' := [.int (nI (pmax hs i))]) (by decide +kernel) rfl ?_
      exact V.reti hF (by decide +kernel) ⟨by rw [ei], rfl⟩
    · skip
      refine V.run hF [(.iload_n 1, 1, .null)] (pc' := 11) (L' := [some (.ref (B 0)), some (.int 1), some (.int (nI (pmax hs i))), some (.int (nI (i + 1)))]) (st' := [.int 1]) (by decide +kernel) rfl ?_
      refine V.if_eq hF (off := 21) (tgt := 32) (by decide +kernel) (by decide) (fun c0 => ?_) (fun c0 => ?_)
      · exact absurd c0 (by decide)
      · skip
        refine V.run hF [(.aload_n 0, 1, .null)] (pc' := 15) (L' := [some (.ref (B 0)), some (.int 1), some (.int (nI (pmax hs i))), some (.int (nI (i + 1)))]) (st' := [.ref (B 0)]) (by decide +kernel) rfl ?_
        refine V.getf hG hF k_RX4_33 (by decide +kernel) hM.2.1 rfl ?_
        refine V.run hF [(.iload_n 3, 1, .null)] (pc' := 19) (L' := [some (.ref (B 0)), some (.int 1), some (.int (nI (pmax hs i))), some (.int (nI (i + 1)))]) (st' := [.int (nI (i + 1)), .ref (B 7)]) (by decide +kernel) rfl ?_
        refine V.ialdN (j := i + 1) hG hF (by decide +kernel) hM.2.2.2.2.2.2.2.2 (by omega) (by decide) ?_
        refine V.run hF [(.aload_n 0, 1, .null)] (pc' := 21) (L' := [some (.ref (B 0)), some (.int 1), some (.int (nI (pmax hs i))), some (.int (nI (i + 1)))]) (st' := [.ref (B 0), .int (hs (i + 1))]) (by decide +kernel) rfl ?_
        refine V.getf hG hF k_RX4_33 (by decide +kernel) hM.2.1 rfl ?_
        refine V.run hF [(.iload_n 2, 1, .null)] (pc' := 25) (L' := [some (.ref (B 0)), some (.int 1), some (.int (nI (pmax hs i))), some (.int (nI (i + 1)))]) (st' := [.int (nI (pmax hs i)), .ref (B 7), .int (hs (i + 1))]) (by decide +kernel) rfl ?_
        refine V.ialdN (j := pmax hs i) hG hF (by decide +kernel) hM.2.2.2.2.2.2.2.2 (by omega) (by decide) ?_
        refine V.icmp_le hF (off := 23) (tgt := 49) (by decide +kernel) (by decide) (fun c2 => ?_) (fun c2 => ?_)
        · skip
          refine V.run hF [(.iinc 3 1, 3, .int 1), (.goto (-48), 3, .null)] (pc' := 4) (L' := [some (.ref (B 0)), some (.int 1), some (.int (nI (pmax hs i))), some (.int ((nI (i + 1)) + 1))]) (st' := []) (by decide +kernel) rfl ?_
          rw [nI_1 (i + 1)]
          rw [show pmax hs i = pmax hs (i + 1) by rw [pmax, if_neg (Int32.not_lt.mpr c2)]]
          exact ih (by omega)
        · skip
          refine V.run hF [(.goto 18, 3, .null), (.iload_n 3, 1, .null), (.istore_n 2, 1, .null), (.iinc 3 1, 3, .int 1), (.goto (-48), 3, .null)] (pc' := 4) (L' := [some (.ref (B 0)), some (.int 1), some (.int (nI (i + 1))), some (.int ((nI (i + 1)) + 1))]) (st' := []) (by decide +kernel) rfl ?_
          rw [nI_1 (i + 1)]
          have e : i + 1 = pmax hs (i + 1) := by rw [pmax, if_pos (Int32.not_le.mp c2)]
          have := ih (by omega)
          rw [← e] at this
          exact this
  refine V.run hF [(.iconst 0, 1, .int (nI 0)), (.istore_n 2, 1, .null), (.iconst 1, 1, .int (nI 1)), (.istore_n 3, 1, .null)] (pc' := 4) (L' := [some (.ref (B 0)), some (.int 1), some (.int (nI 0)), some (.int (nI 1))]) (st' := []) (by decide +kernel) rfl ?_
  exact loop 0 (Nat.zero_le _)
set_option maxHeartbeats 4000000 in
theorem c_X4_exMin (hG : GOk G) (hM : MO h B σ x u md hs) : Ct G yX4_extreme (.code yX4_extreme cX4_extreme 4 (some .int)) 0 0 0 0 [.ref (B 0), .int 0] h (is_i (nI (pmin hs 7)) h) pxN := by
  refine Ct.of (by decide +kernel) (Nat.le_of_ble_eq_true rfl) fun F hF hT hN hRm => ?_
  have loop : ∀ i, i ≤ 7 → V G F (fin G F (is_i (nI (pmin hs 7)) h) pxN) 0 0 4 [some (.ref (B 0)), some (.int 0), some (.int (nI (pmin hs i))), some (.int (nI (i + 1)))] [] h := by
    refine lp_up 7 fun i hi ih => ?_
    have hm := pmin_le hs i
    refine V.run hF [(.iload_n 3, 1, .null), (.bipush 8, 2, .int (nI 8))] (pc' := 7) (L' := [some (.ref (B 0)), some (.int 0), some (.int (nI (pmin hs i))), some (.int (nI (i + 1)))]) (st' := [.int (nI 8), .int (nI (i + 1))]) (by decide +kernel) rfl ?_
    refine V.icmpN_ge (i := i + 1) (j := 8) hF (off := 48) (tgt := 55) (by decide +kernel) (by decide) (by omega) (by omega) (fun c1 => ?_) (fun c1 => ?_)
    · have ei : i = 7 := by omega
      refine V.run hF [(.iload_n 2, 1, .null)] (pc' := 56) (L' := [some (.ref (B 0)), some (.int 0), some (.int (nI (pmin hs i))), some (.int (nI (i + 1)))]) (st' := [.int (nI (pmin hs i))]) (by decide +kernel) rfl ?_
      exact V.reti hF (by decide +kernel) ⟨by rw [ei], rfl⟩
    · skip
      refine V.run hF [(.iload_n 1, 1, .null)] (pc' := 11) (L' := [some (.ref (B 0)), some (.int 0), some (.int (nI (pmin hs i))), some (.int (nI (i + 1)))]) (st' := [.int 0]) (by decide +kernel) rfl ?_
      refine V.if_eq hF (off := 21) (tgt := 32) (by decide +kernel) (by decide) (fun c0 => ?_) (fun c0 => ?_)
      · skip
        refine V.run hF [(.aload_n 0, 1, .null)] (pc' := 33) (L' := [some (.ref (B 0)), some (.int 0), some (.int (nI (pmin hs i))), some (.int (nI (i + 1)))]) (st' := [.ref (B 0)]) (by decide +kernel) rfl ?_
        refine V.getf hG hF k_RX4_33 (by decide +kernel) hM.2.1 rfl ?_
        refine V.run hF [(.iload_n 3, 1, .null)] (pc' := 37) (L' := [some (.ref (B 0)), some (.int 0), some (.int (nI (pmin hs i))), some (.int (nI (i + 1)))]) (st' := [.int (nI (i + 1)), .ref (B 7)]) (by decide +kernel) rfl ?_
        refine V.ialdN (j := i + 1) hG hF (by decide +kernel) hM.2.2.2.2.2.2.2.2 (by omega) (by decide) ?_
        refine V.run hF [(.aload_n 0, 1, .null)] (pc' := 39) (L' := [some (.ref (B 0)), some (.int 0), some (.int (nI (pmin hs i))), some (.int (nI (i + 1)))]) (st' := [.ref (B 0), .int (hs (i + 1))]) (by decide +kernel) rfl ?_
        refine V.getf hG hF k_RX4_33 (by decide +kernel) hM.2.1 rfl ?_
        refine V.run hF [(.iload_n 2, 1, .null)] (pc' := 43) (L' := [some (.ref (B 0)), some (.int 0), some (.int (nI (pmin hs i))), some (.int (nI (i + 1)))]) (st' := [.int (nI (pmin hs i)), .ref (B 7), .int (hs (i + 1))]) (by decide +kernel) rfl ?_
        refine V.ialdN (j := pmin hs i) hG hF (by decide +kernel) hM.2.2.2.2.2.2.2.2 (by omega) (by decide) ?_
        refine V.icmp_ge hF (off := 5) (tgt := 49) (by decide +kernel) (by decide) (fun c2 => ?_) (fun c2 => ?_)
        · skip
          refine V.run hF [(.iinc 3 1, 3, .int 1), (.goto (-48), 3, .null)] (pc' := 4) (L' := [some (.ref (B 0)), some (.int 0), some (.int (nI (pmin hs i))), some (.int ((nI (i + 1)) + 1))]) (st' := []) (by decide +kernel) rfl ?_
          rw [nI_1 (i + 1)]
          rw [show pmin hs i = pmin hs (i + 1) by rw [pmin, if_neg (Int32.not_lt.mpr c2)]]
          exact ih (by omega)
        · skip
          refine V.run hF [(.iload_n 3, 1, .null), (.istore_n 2, 1, .null), (.iinc 3 1, 3, .int 1), (.goto (-48), 3, .null)] (pc' := 4) (L' := [some (.ref (B 0)), some (.int 0), some (.int (nI (i + 1))), some (.int ((nI (i + 1)) + 1))]) (st' := []) (by decide +kernel) rfl ?_
          rw [nI_1 (i + 1)]
          have e : i + 1 = pmin hs (i + 1) := by rw [pmin, if_pos (Int32.not_le.mp c2)]
          have := ih (by omega)
          rw [← e] at this
          exact this
      · skip
        exact absurd rfl c0
  refine V.run hF [(.iconst 0, 1, .int (nI 0)), (.istore_n 2, 1, .null), (.iconst 1, 1, .int (nI 1)), (.istore_n 3, 1, .null)] (pc' := 4) (L' := [some (.ref (B 0)), some (.int 0), some (.int (nI 0)), some (.int (nI 1))]) (st' := []) (by decide +kernel) rfl ?_
  exact loop 0 (Nat.zero_le _)
set_option maxHeartbeats 4000000 in
theorem c_X4_witness (hG : GOk G) (hM : MO h B σ x u md hs) (hR : RM σ u) {d c : Nat} (hd : d < 8) (hc : c < 8) : Ct G yX4_witness (.code yX4_witness cX4_witness 4 (some .int)) 1 21 0 0 [.ref (B 0), .int (nI d), .int (nI c)] h (is_i (on (wf (gth σ) d c 8 0)) h) pxN := by
  refine Ct.of (by decide +kernel) (Nat.le_of_ble_eq_true rfl) fun F hF hT hN hRm => ?_
  have loop : ∀ i, i ≤ 8 → V G F (fin G F (is_i (on (wf (gth σ) d c (8 - i) i)) h) pxN) 0 0 2 [some (.ref (B 0)), some (.int (nI d)), some (.int (nI c)), some (.int (nI i))] [] h := by
    refine lp_up 8 fun i hi ih => ?_
    refine V.run hF [(.iload_n 3, 1, .null), (.bipush 8, 2, .int (nI 8))] (pc' := 5) (L' := [some (.ref (B 0)), some (.int (nI d)), some (.int (nI c)), some (.int (nI i))]) (st' := [.int (nI 8), .int (nI i)]) (by decide +kernel) rfl ?_
    refine V.icmpN_ge (i := i) (j := 8) hF (off := 29) (tgt := 34) (by decide +kernel) (by decide) (by omega) (by omega) (fun c1 => ?_) (fun c1 => ?_)
    · have ei : i = 8 := by omega
      refine V.run hF [(.iconst (-1), 1, .int (-1))] (pc' := 35) (L' := [some (.ref (B 0)), some (.int (nI d)), some (.int (nI c)), some (.int (nI i))]) (st' := [.int (-1)]) (by decide +kernel) rfl ?_
      exact V.reti hF (by decide +kernel) ⟨by rw [ei]; rfl, rfl⟩
    · skip
      have e8 : 8 - i = (8 - (i + 1)) + 1 := by omega
      have nx : ¬ (¬ gth σ i = 0 ∧ ¬ i = d ∧ ¬ i = c) → wf (gth σ) d c (8 - i) i = wf (gth σ) d c (8 - (i + 1)) (i + 1) := fun q => by rw [e8, wf, if_neg q]
      refine V.run hF [(.aload_n 0, 1, .null), (.iload_n 3, 1, .null)] (pc' := 10) (L' := [some (.ref (B 0)), some (.int (nI d)), some (.int (nI c)), some (.int (nI i))]) (st' := [.int (nI i), .ref (B 0)]) (by decide +kernel) rfl ?_
      refine V.callV (As := [.int (nI i)]) (st := []) hG hF k_RX4_64 (by decide +kernel) (c_X4_is hG hM hR c1) hM.2.1 rfl rfl ⟨by rw [hRm]; decide, by rw [hRm]; decide⟩ (Nat.le_of_ble_eq_true rfl) rfl (fun v h_1 gp1 => ?_) (fun E h9 hx => hx.elim)
      obtain ⟨rfl, he_gp1⟩ := gp1
      rw [he_gp1]
      show V G F _ _ _ 13 [some (.ref (B 0)), some (.int (nI d)), some (.int (nI c)), some (.int (nI i))] [.int (gth σ i)] h
      refine V.if_eq hF (off := 15) (tgt := 28) (by decide +kernel) (by decide) (fun c2 => ?_) (fun c2 => ?_)
      · skip
        refine V.run hF [(.iinc 3 1, 3, .int 1), (.goto (-29), 3, .null)] (pc' := 2) (L' := [some (.ref (B 0)), some (.int (nI d)), some (.int (nI c)), some (.int ((nI i) + 1))]) (st' := []) (by decide +kernel) rfl ?_
        rw [nI_1 i]
        rw [nx (fun q => q.1 c2)]
        exact ih c1
      · skip
        refine V.run hF [(.iload_n 3, 1, .null), (.iload_n 1, 1, .null)] (pc' := 18) (L' := [some (.ref (B 0)), some (.int (nI d)), some (.int (nI c)), some (.int (nI i))]) (st' := [.int (nI d), .int (nI i)]) (by decide +kernel) rfl ?_
        refine V.icmpN_eq (i := i) (j := d) hF (off := 10) (tgt := 28) (by decide +kernel) (by decide) (by omega) (by omega) (fun c3 => ?_) (fun c3 => ?_)
        · skip
          refine V.run hF [(.iinc 3 1, 3, .int 1), (.goto (-29), 3, .null)] (pc' := 2) (L' := [some (.ref (B 0)), some (.int (nI d)), some (.int (nI c)), some (.int ((nI i) + 1))]) (st' := []) (by decide +kernel) rfl ?_
          rw [nI_1 i]
          rw [nx (fun q => q.2.1 c3)]
          exact ih c1
        · skip
          refine V.run hF [(.iload_n 3, 1, .null), (.iload_n 2, 1, .null)] (pc' := 23) (L' := [some (.ref (B 0)), some (.int (nI d)), some (.int (nI c)), some (.int (nI i))]) (st' := [.int (nI c), .int (nI i)]) (by decide +kernel) rfl ?_
          refine V.icmpN_eq (i := i) (j := c) hF (off := 5) (tgt := 28) (by decide +kernel) (by decide) (by omega) (by omega) (fun c4 => ?_) (fun c4 => ?_)
          · skip
            refine V.run hF [(.iinc 3 1, 3, .int 1), (.goto (-29), 3, .null)] (pc' := 2) (L' := [some (.ref (B 0)), some (.int (nI d)), some (.int (nI c)), some (.int ((nI i) + 1))]) (st' := []) (by decide +kernel) rfl ?_
            rw [nI_1 i]
            rw [nx (fun q => q.2.2 c4)]
            exact ih c1
          · skip
            refine V.run hF [(.iload_n 3, 1, .null)] (pc' := 27) (L' := [some (.ref (B 0)), some (.int (nI d)), some (.int (nI c)), some (.int (nI i))]) (st' := [.int (nI i)]) (by decide +kernel) rfl ?_
            exact V.reti hF (by decide +kernel) ⟨by rw [e8, wf, if_pos ⟨c2, c3, c4⟩]; rfl, rfl⟩
  refine V.run hF [(.iconst 0, 1, .int (nI 0)), (.istore_n 3, 1, .null)] (pc' := 2) (L' := [some (.ref (B 0)), some (.int (nI d)), some (.int (nI c)), some (.int (nI 0))]) (st' := []) (by decide +kernel) rfl ?_
  exact loop 0 (Nat.zero_le _)
end Mp
