/-! ===== System.arraycopy between arrays of int ===== -/
section Nb
variable {G : Gt} {F : Ft} {Q : State → Prop} {own : String} {cc : ByteArray} {nL : Nat} {ret : Option FieldType} {kc ks pc : Nat} {L : List (Option Value)} {st : List Value} {h : Hp}
theorem V.acopy (hG : GOk G) (hF : Ok G F own cc nL ret) {ix : Nat} (w1 : tw (.methodLink own ix arraycopyName)) (w2 : tw (.native arraycopyName)) (w3 : tw (.static arraycopyName)) (w4 : tw (.initialized "java/lang/System")) {a0 a n0 n1 : Nat} {f g : Nat → Int32}
    (hd : decode cc pc = .ok (.invokestatic ix, 3)) (hc0 : h a0 = some (.inl (0, n0, .inl f))) (hc1 : h a = some (.inl (0, n1, .inl g))) {sp dp n : Nat} (hs : sp + n ≤ n0) (hdp : dp + n ≤ n1) (b0 : n0 < 2 ^ 31) (b1 : n1 < 2 ^ 31) (hroom : 1 ≤ (fR F).frames ∧ (st.map fun v => v.category).sum + (nativeFrameWords "java/lang/System" "arraycopy" 5 + 11) ≤ (fR F).locals)
    (kk : V G F Q kc ks (pc + 3) L st (hset h a (.inl (0, n1, .inl (va_cpy f g sp dp n))))) : V G F Q kc ks pc L (.int (nI n) :: .int (nI dp) :: .ref a :: .int (nI sp) :: .ref a0 :: st) h := by
  intro H locs ls cells slots hR hS hL hz h1 h2
  have hk := (hF.K hG).2 0 _ rfl
  have es : (nI sp).toNatClampNeg = sp := nI_clamp (by omega)
  have ed : (nI dp).toNatClampNeg = dp := nI_clamp (by omega)
  have en : (nI n).toNatClampNeg = n := nI_clamp (by omega)
  intro T hT X
  have g0 : H[a0]? = some (vp_cell (gA G 0) (n0, .inl f)) := (hR a0 _ hc0).2
  have g1 : H[a]? = some (vp_cell (gA G 0) (n1, .inl g)) := (hR a _ hc1).2
  obtain ⟨-, k0, hk0, cm0, hkk0⟩ := hk.1 n0 (fun j => .int (f j))
  obtain ⟨-, k1, hk1, cm1, hkk1⟩ := hk.1 n1 (fun j => .int (g j))
  obtain ⟨vm', X', step⟩ := X.arraycopy hF.1 hF.2.2.2.2.1 (hF.wd hG w1.1 w1.2) (hF.wd hG w2.1 w2.2) (hF.wd hG w3.1 w3.2) (hF.wd hG w4.1 w4.2) (src := a0) (dst := a) (cs := vp_cell (gA G 0) (n0, .inl f)) (cd := vp_cell (gA G 0) (n1, .inl g)) (srcPos := nI sp) (destPos := nI dp) (n := nI n) (by rw [hT]; exact g0) (by rw [hT]; exact g1)
    (fun _ h => by cases h) (fun _ h => by cases h) (fun h => by cases h) (fun h => by cases h) hk0 hk1 hkk0 hkk1 rfl (nI_pos (by omega)) (nI_pos (by omega)) (nI_pos (by omega))
    (by rw [nI_toInt (by omega), nI_toInt (by omega)]; show ¬ _ > ((arrV (gA G 0) n0 (fun j => .int (f j))).slots.size : Int); rw [arrV_size]; omega)
    (by rw [nI_toInt (by omega), nI_toInt (by omega)]; show ¬ _ > ((arrV (gA G 0) n1 (fun j => .int (g j))).slots.size : Int); rw [arrV_size]; omega)
    (fun vm₁ _ i hi => by
      rw [en] at hi
      have e : (vp_cell (gA G 0) (n0, .inl f)).slots.getD ((nI sp).toNatClampNeg + i) .null = .int (f ((nI sp).toNatClampNeg + i)) := by
        show (arrV (gA G 0) n0 (fun j => .int (f j))).slots.getD _ _ = _
        rw [Array.getD_eq_getD_getElem?, arrV_read _ _ (by omega)]
        rfl
      refine ⟨?_, ?_⟩
      · rw [e]
        rfl
      · rw [e]
        exact trivial)
    (g := F0 (fM F) pc ls (.int (nI n) :: .int (nI dp) :: .ref a :: .int (nI sp) :: .ref a0 :: st)) rfl (by rw [hz]) (rest := st) rfl (by rw [hF.2.1]; exact hd) hroom.1 (by show 2 * 0 + _ + _ ≤ _; have := hroom.2; omega)
  have e1 : copied (vp_cell (gA G 0) (n0, .inl f)) (vp_cell (gA G 0) (n1, .inl g)) (nI sp) (nI dp) (nI n) = vp_cell (gA G 0) (n1, .inl (va_cpy f g (nI sp).toNatClampNeg (nI dp).toNatClampNeg (nI n).toNatClampNeg)) := va_copied (fun z => .int z) (gA G 0) (gA G 0) f g (by rw [es, en]; exact hs)
  rw [e1, es, ed, en] at X' step
  have hl : a < H.size := (Array.getElem?_eq_some_iff.mp g1).1
  have hheap : ((T.setVm vm').setCell a (vp_cell (gA G 0) (n1, .inl (va_cpy f g sp dp n)))).heap = H.setIfInBounds a (vp_cell (gA G 0) (n1, .inl (va_cpy f g sp dp n))) := by rw [← hT]; rfl
  have oq : ∀ q : Nat, q ≠ a → (H.setIfInBounds a (vp_cell (gA G 0) (n1, .inl (va_cpy f g sp dp n))))[q]? = H[q]? := fun q hq => by simp [Array.getElem?_setIfInBounds, Ne.symm hq]
  have ha := (hR a _ hc1).1
  obtain ⟨t, a1, b1⟩ := kk _ _ ls cells slots (hR.store ha (show (H.setIfInBounds a _)[a]? = some _ by simp [Array.getElem?_setIfInBounds, hl]) oq) ⟨by simp; exact hS.1, fun q g1 g2 => by
      rw [oq q (fun e => g2 (by rw [e]; exact ha))]
      exact hS.2.1 q g1 g2, fun q hq => by
      rcases List.mem_append.mp hq with h | h
      · exact hS.2.2 q h
      · obtain ⟨z, -, hz⟩ := List.mem_map.mp h
        rw [← hz]
        exact ha⟩ hL hz h1 h2 _ hheap X'
  exact ⟨t, step t a1, b1⟩
end Nb
