/-! ===== TallyWax: meanAmount ===== -/
theorem mask63 (x : UInt64) : (x &&& 0x7fffffffffffffff).toNat = x.toNat % 2 ^ 63 := by
  show (x.toBitVec &&& (0x7fffffffffffffff : UInt64).toBitVec).toNat = _
  rw [BitVec.toNat_and]
  exact Nat.and_two_pow_sub_one_eq_mod x.toNat 63
theorem dv_n64 (a b : Int32) (hb : b ≠ 0) : vf_n64 (FP.ddiv (FP.i2d a) (FP.i2d b)) := by
  have h1 := FP.Core.i2d_mag a
  have h2 := (FP.Core.i2d_big (v := b) (fun q => hb (Int32.toInt_inj.mp (q.trans Int32.toInt_zero.symm)))).1
  have h3 := FP.Core.ddiv_mag (K := 1056) (L := 1023) h1 h2 (FP.Core.i2d_big (v := b) (fun q => hb (Int32.toInt_inj.mp (q.trans Int32.toInt_zero.symm)))).2 (by decide) (by decide)
  show FP.ddiv (FP.i2d a) (FP.i2d b) &&& 0x7fffffffffffffff ≤ 0x7ff0000000000000
  rw [UInt64.le_iff_toNat_le, mask63]
  show (FP.Core.ddiv (FP.Core.i2d a) (FP.Core.i2d b)).toNat % 2 ^ 63 ≤ 9218868437227405312
  omega
section Ou
variable {G : Gt} {h : Hp} {A : Nat → Nat} {σ : Sg} {P : PS} {r : Nat → Int32}
/-- the mean, from the number of lines and their sum -/
def mn (n s : Int32) : UInt64 := if n = 0 then 0 else FP.ddiv (FP.i2d s) (FP.i2d n)
set_option maxHeartbeats 4000000 in
theorem c_X3_meanAmount (hG : GOk G) (hC : CS h A σ P r) : Ct G yX3_meanAmount (.code yX3_meanAmount cX3_meanAmount 2 (some .double)) 2 47 0 0 [.ref (A 0)] h (fun v h' => v = some (.double (mn (gLn σ (gT σ)) (gTo σ (gT σ)))) ∧ h' = h) pxN := by
  refine Ct.of (by decide +kernel) (Nat.le_of_ble_eq_true rfl) fun F hF hT hN hRm => ?_
  refine V.run hF [(.aload_n 0, 1, .null)] (pc' := 1) (L' := [some (.ref (A 0)), none]) (st' := [.ref (A 0)]) (by decide +kernel) rfl ?_
  refine V.callV (As := []) (st := []) hG hF k_RX3_186 (by decide +kernel) (c_X3_lines hG hC) hC.2.2.1 rfl rfl ⟨by rw [hRm]; decide, by rw [hRm]; decide⟩ (Nat.le_of_ble_eq_true rfl) rfl (fun v h_1 gp1 => ?_) (fun E h9 hx => hx.elim)
  obtain ⟨rfl, he_gp1⟩ := gp1
  rw [he_gp1]
  show V G F _ _ _ 4 [some (.ref (A 0)), none] [.int (gLn σ (gT σ))] h
  refine V.run hF [(.istore_n 1, 1, .null), (.iload_n 1, 1, .null)] (pc' := 6) (L' := [some (.ref (A 0)), some (.int (gLn σ (gT σ)))]) (st' := [.int (gLn σ (gT σ))]) (by decide +kernel) rfl ?_
  refine V.if_ne hF (off := 5) (tgt := 11) (by decide +kernel) (by decide) (fun c1 => ?_) (fun c1 => ?_)
  · skip
    refine V.run hF [(.aload_n 0, 1, .null)] (pc' := 12) (L' := [some (.ref (A 0)), some (.int (gLn σ (gT σ)))]) (st' := [.ref (A 0)]) (by decide +kernel) rfl ?_
    refine V.callV (As := []) (st := []) hG hF k_RX3_188 (by decide +kernel) (c_X3_total hG hC) hC.2.2.1 rfl rfl ⟨by rw [hRm]; decide, by rw [hRm]; decide⟩ (Nat.le_of_ble_eq_true rfl) rfl (fun v h_2 gp2 => ?_) (fun E h9 hx => hx.elim)
    obtain ⟨rfl, he_gp2⟩ := gp2
    rw [he_gp2]
    show V G F _ _ _ 15 [some (.ref (A 0)), some (.int (gLn σ (gT σ)))] [.int (gTo σ (gT σ))] h
    refine V.run hF [(.i2d, 1, .null), (.iload_n 1, 1, .null), (.i2d, 1, .null)] (pc' := 18) (L' := [some (.ref (A 0)), some (.int (gLn σ (gT σ)))]) (st' := [.double (FP.i2d (gLn σ (gT σ))), .double (FP.i2d (gTo σ (gT σ)))]) (by decide +kernel) rfl ?_
    refine V.ddiv hF (by decide +kernel) (dv_n64 _ _ c1) ?_
    exact V.retd hF (by decide +kernel) ⟨by rw [mn, if_neg c1], rfl⟩
  · skip
    refine V.dconst0 hF (by decide +kernel) ?_
    exact V.retd hF (by decide +kernel) ⟨by rw [mn, if_pos c1], rfl⟩
end Ou
