/-! ===== TallyWaxModel: remove ===== -/
section Nd
variable {G : Gt} {h : Hp} {B : Nat → Nat} {σ : Sg} {x : Int32} {u : Mu} {md hs : Nat → Int32}
set_option maxHeartbeats 4000000 in
theorem c_X4_remove (hG : GOk G) (hM : MO h B σ x u md hs) (hR : RM σ u) {t l : Nat} (ht : t < gT σ) (hl : l < gn σ t) : Ct G yX4_remove (.code yX4_remove cX4_remove 3 none) 1 60 0 0 [.ref (B 0), .int (nI t), .int (nI l)] h
    (is_v fun h' => ∃ u', RM (sTake σ t l) u' ∧ MO h' B σ x u' md hs ∧ kpB h h' B) pxN := by
  refine Ct.of (by decide +kernel) (Nat.le_of_ble_eq_true rfl) fun F hF hT hN hRm => ?_
  obtain ⟨t8, em, en⟩ := hR.mn ht
  have n03 : B 0 ≠ B 3 := hM.1.ne (by omega) (by omega) (by omega)
  have n34 : B 3 ≠ B 4 := hM.1.ne (by omega) (by omega) (by omega)
  refine V.run hF [(.aload_n 0, 1, .null)] (pc' := 1) (L' := [some (.ref (B 0)), some (.int (nI t)), some (.int (nI l))]) (st' := [.ref (B 0)]) (by decide +kernel) rfl ?_
  refine V.getf hG hF k_RX4_21 (by decide +kernel) hM.2.1 rfl ?_
  refine V.run hF [(.iload_n 1, 1, .null), (.dup2, 1, .null)] (pc' := 6) (L' := [some (.ref (B 0)), some (.int (nI t)), some (.int (nI l))]) (st' := [.int (nI t), .ref (B 3), .int (nI t), .ref (B 3)]) (by decide +kernel) rfl ?_
  refine V.ialdN (j := t) hG hF (by decide +kernel) hM.2.2.2.2.1 (by omega) (by decide) ?_
  rw [em]
  refine V.run hF [(.iconst 1, 1, .int (nI 1)), (.isub, 1, .null)] (pc' := 9) (L' := [some (.ref (B 0)), some (.int (nI t)), some (.int (nI l))]) (st' := [.int (nI (gn σ t) - nI 1), .int (nI t), .ref (B 3)]) (by decide +kernel) rfl ?_
  rw [pk_sub (by omega)]
  refine V.iastN (j := t) hG hF (by decide +kernel) hM.2.2.2.2.1 (by omega) (by decide) ?_
  obtain ⟨h_1, gh1⟩ : ∃ z : Hp, z = hset h (B 3) (.inl (0, 8, .inl (upd (umn u) t (nI (gn σ t - 1))))) := ⟨_, rfl⟩
  refine V.hp gh1 ?_
  have gk1 : ∀ q : Nat, q ≠ (B 3) → h_1 q = h q := fun q hq => by rw [gh1]; exact hset_ne hq
  have gs1 : h_1 (B 3) = some (.inl (0, 8, .inl (upd (umn u) t (nI (gn σ t - 1))))) := by rw [gh1]; exact hset_eq
  have hM2 := hM.c3 gs1 (fun q hq => gk1 q hq)
  have hk2 : kpB h h_1 B := kpB.one (i := 3) (by omega) (fun q hq => gk1 q hq)
  refine V.run hF [(.aload_n 0, 1, .null)] (pc' := 11) (L' := [some (.ref (B 0)), some (.int (nI t)), some (.int (nI l))]) (st' := [.ref (B 0)]) (by decide +kernel) rfl ?_
  have gf2 : h_1 (B 0) = some (.inr (4, [.int x, .int (uth u), .int (nI (gT σ)), .ref (B 1), .ref (B 2), .ref (B 3), .ref (B 4), .ref (B 5), .int (nI (gy σ)), .int (gme σ), .int (gde σ), .ref (B 6), .ref (B 7)])) := (gk1 (B 0) (by first | assumption | exact Ne.symm (by assumption) | omega)).trans hM.2.1
  refine V.getf hG hF k_RX4_24 (by decide +kernel) gf2 rfl ?_
  refine V.run hF [(.iload_n 1, 1, .null), (.iload_n 2, 1, .null), (.iconst 1, 1, .int (nI 1)), (.iadd, 1, .null)] (pc' := 18) (L' := [some (.ref (B 0)), some (.int (nI t)), some (.int (nI l))]) (st' := [.int (nI l + nI 1), .int (nI t), .ref (B 4)]) (by decide +kernel) rfl ?_
  rw [nI_add]
  refine V.callS (As := [.int (nI t), .int (nI (l + 1))]) (st := [.ref (B 4)]) hG hF k_RX4_50 (by decide +kernel) (c_X4_at t (l + 1)) rfl ⟨by rw [hRm]; decide, by rw [hRm]; decide⟩ (Nat.le_of_ble_eq_true rfl) rfl (fun v h_3 gp3 => ?_) (fun E h9 hx => hx.elim)
  obtain ⟨rfl, he_gp3⟩ := gp3
  rw [he_gp3]
  show V G F _ _ _ 21 [some (.ref (B 0)), some (.int (nI t)), some (.int (nI l))] [.int (nI (48 * t + 4 * (l + 1))), .ref (B 4)] h_1
  refine V.run hF [(.aload_n 0, 1, .null)] (pc' := 22) (L' := [some (.ref (B 0)), some (.int (nI t)), some (.int (nI l))]) (st' := [.ref (B 0), .int (nI (48 * t + 4 * (l + 1))), .ref (B 4)]) (by decide +kernel) rfl ?_
  refine V.getf hG hF k_RX4_24 (by decide +kernel) gf2 rfl ?_
  refine V.run hF [(.iload_n 1, 1, .null), (.iload_n 2, 1, .null)] (pc' := 27) (L' := [some (.ref (B 0)), some (.int (nI t)), some (.int (nI l))]) (st' := [.int (nI l), .int (nI t), .ref (B 4), .int (nI (48 * t + 4 * (l + 1))), .ref (B 4)]) (by decide +kernel) rfl ?_
  refine V.callS (As := [.int (nI t), .int (nI l)]) (st := [.ref (B 4), .int (nI (48 * t + 4 * (l + 1))), .ref (B 4)]) hG hF k_RX4_50 (by decide +kernel) (c_X4_at t l) rfl ⟨by rw [hRm]; decide, by rw [hRm]; decide⟩ (Nat.le_of_ble_eq_true rfl) rfl (fun v h_4 gp4 => ?_) (fun E h9 hx => hx.elim)
  obtain ⟨rfl, he_gp4⟩ := gp4
  rw [he_gp4]
  show V G F _ _ _ 30 [some (.ref (B 0)), some (.int (nI t)), some (.int (nI l))] [.int (nI (48 * t + 4 * l)), .ref (B 4), .int (nI (48 * t + 4 * (l + 1))), .ref (B 4)] h_1
  refine V.run hF [(.iconst 4, 1, .int (nI 4)), (.aload_n 0, 1, .null)] (pc' := 32) (L' := [some (.ref (B 0)), some (.int (nI t)), some (.int (nI l))]) (st' := [.ref (B 0), .int (nI 4), .int (nI (48 * t + 4 * l)), .ref (B 4), .int (nI (48 * t + 4 * (l + 1))), .ref (B 4)]) (by decide +kernel) rfl ?_
  refine V.getf hG hF k_RX4_21 (by decide +kernel) gf2 rfl ?_
  refine V.run hF [(.iload_n 1, 1, .null)] (pc' := 36) (L' := [some (.ref (B 0)), some (.int (nI t)), some (.int (nI l))]) (st' := [.int (nI t), .ref (B 3), .int (nI 4), .int (nI (48 * t + 4 * l)), .ref (B 4), .int (nI (48 * t + 4 * (l + 1))), .ref (B 4)]) (by decide +kernel) rfl ?_
  refine V.ialdN (j := t) hG hF (by decide +kernel) gs1 (by omega) (by decide) ?_
  rw [upd_s]
  refine V.run hF [(.iload_n 2, 1, .null), (.isub, 1, .null)] (pc' := 39) (L' := [some (.ref (B 0)), some (.int (nI t)), some (.int (nI l))]) (st' := [.int (nI (gn σ t - 1) - nI l), .int (nI 4), .int (nI (48 * t + 4 * l)), .ref (B 4), .int (nI (48 * t + 4 * (l + 1))), .ref (B 4)]) (by decide +kernel) rfl ?_
  rw [pk_sub (by omega)]
  refine V.run hF [(.imul, 1, .null)] (pc' := 40) (L' := [some (.ref (B 0)), some (.int (nI t)), some (.int (nI l))]) (st' := [.int (nI 4 * nI (gn σ t - 1 - l)), .int (nI (48 * t + 4 * l)), .ref (B 4), .int (nI (48 * t + 4 * (l + 1))), .ref (B 4)]) (by decide +kernel) rfl ?_
  rw [pk_mul]
  refine V.acopy hG hF tw_ac1 tw_ac2 tw_ac3 tw_ac4 (by decide +kernel) hM2.2.2.2.2.2.1 hM2.2.2.2.2.2.1 (by omega) (by omega) (by decide) (by decide) (by rw [hRm]; decide +kernel) ?_
  obtain ⟨h9, gh9⟩ : ∃ z : Hp, z = hset h_1 (B 4) (.inl (0, 384, .inl (va_cpy (uli u) (uli u) (48 * t + 4 * (l + 1)) (48 * t + 4 * l) (4 * (gn σ t - 1 - l))))) := ⟨_, rfl⟩
  refine V.hp gh9 ?_
  have k9 : ∀ q : Nat, q ≠ B 4 → h9 q = h_1 q := fun q hq => by rw [gh9]; exact hset_ne hq
  have hM3 := hM2.c4 (show h9 (B 4) = _ by rw [gh9]; exact hset_eq) k9
  have hk3 := hk2.tr (kpB.one (i := 4) (by omega) k9)
  exact V.retv hF (by decide +kernel) ⟨rfl, _, hR.take ht hl, hM3, hk3⟩
end Nd
