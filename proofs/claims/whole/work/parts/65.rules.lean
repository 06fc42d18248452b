/-! ===== the law: catching, the script, the switch ===== -/
def GNc (G : Gt) : Prop := va_Nc eA eI G.2.1 ∧ va_Nc eS eI G.2.1 ∧ va_Nc eS eA G.2.1
theorem twc_A : tw (.castable eA eA) := ⟨by decide +kernel, by decide +kernel⟩
theorem twc_I : tw (.castable eI eI) := ⟨by decide +kernel, by decide +kernel⟩
theorem twc_S : tw (.castable eS eS) := ⟨by decide +kernel, by decide +kernel⟩
section Ru
variable {G : Gt} {F : Ft} {Q : State → Prop} {own : String} {cc : ByteArray} {nL : Nat} {ret : Option FieldType} {kc ks pc : Nat} {L : List (Option Value)} {st : List Value} {h : Hp}
theorem VX.catch (hG : GOk G) (hF : Ok G F own cc nL ret) {hh : List (Nat × Nat × Nat × Nat)} (ht : (fC F).exceptionTable.toList = tableOf hh) {E name : String} (pre : List ExceptionTableEntry) (x : ExceptionTableEntry) (suf : List ExceptionTableEntry) (hs : tableOf hh = pre ++ x :: suf)
    (hp : ∀ z ∈ pre, covers z pc = false ∨ (z.catchType ≠ 0 ∧ ∃ nm : String, tw (.classLink own z.catchType nm) ∧ va_Nc E nm G.2.1)) (hx : covers x pc = true) (h0 : x.catchType ≠ 0) (hl : tw (.classLink own x.catchType name)) (hc : tw (.castable E name))
    (kk : ∀ a : Nat, V G F Q kc ks x.handlerPc L [.ref a] h) : VX G F Q kc ks pc L E h := by
  intro H locs ls rest cells slots q ce hR hS hL hz h1 h2 hce hcv hcl
  exact vx_catch hF.2.2.2.2.1 pre x suf (ht.trans hs) (fun z hz => (hp z hz).imp id (fun ⟨a, nm, b, c⟩ => ⟨a, nm, hF.wd hG b.1 b.2, va_Nc.moved hF.W.alike c⟩)) hx h0 (hF.wd hG hl.1 hl.2) (hF.wd hG hc.1 hc.2) hce hcv hcl (kk q H locs ls cells slots hR hS hL hz h1 h2)
theorem VX.catch1 (hG : GOk G) (hF : Ok G F own cc nL ret) {hh : List (Nat × Nat × Nat × Nat)} (ht : (fC F).exceptionTable.toList = tableOf hh) {E name : String} (x : ExceptionTableEntry) (suf : List ExceptionTableEntry) (hs : tableOf hh = x :: suf)
    (hx : covers x pc = true) (h0 : x.catchType ≠ 0) (hl : tw (.classLink own x.catchType name)) (hc : tw (.castable E name))
    (kk : ∀ a : Nat, V G F Q kc ks x.handlerPc L [.ref a] h) : VX G F Q kc ks pc L E h :=
  VX.catch hG hF ht [] x suf hs (fun z hz => absurd hz List.not_mem_nil) hx h0 hl hc kk
theorem VX.catch2 (hG : GOk G) (hF : Ok G F own cc nL ret) {hh : List (Nat × Nat × Nat × Nat)} (ht : (fC F).exceptionTable.toList = tableOf hh) {E name n1 : String} (x1 x : ExceptionTableEntry) (suf : List ExceptionTableEntry) (hs : tableOf hh = x1 :: x :: suf)
    (h1 : x1.catchType ≠ 0) (hl1 : tw (.classLink own x1.catchType n1)) (hn1 : va_Nc E n1 G.2.1) (hx : covers x pc = true) (h0 : x.catchType ≠ 0) (hl : tw (.classLink own x.catchType name)) (hc : tw (.castable E name))
    (kk : ∀ a : Nat, V G F Q kc ks x.handlerPc L [.ref a] h) : VX G F Q kc ks pc L E h :=
  VX.catch hG hF ht [x1] x suf hs (fun z hz => by
    rw [List.mem_singleton.mp hz]
    exact Or.inr ⟨h1, n1, hl1, hn1⟩) hx h0 hl hc kk
theorem VX.catch3 (hG : GOk G) (hF : Ok G F own cc nL ret) {hh : List (Nat × Nat × Nat × Nat)} (ht : (fC F).exceptionTable.toList = tableOf hh) {E name n1 n2 : String} (x1 x2 x : ExceptionTableEntry) (suf : List ExceptionTableEntry) (hs : tableOf hh = x1 :: x2 :: x :: suf)
    (h1 : x1.catchType ≠ 0) (hl1 : tw (.classLink own x1.catchType n1)) (hn1 : va_Nc E n1 G.2.1) (h2 : x2.catchType ≠ 0) (hl2 : tw (.classLink own x2.catchType n2)) (hn2 : va_Nc E n2 G.2.1) (hx : covers x pc = true) (h0 : x.catchType ≠ 0) (hl : tw (.classLink own x.catchType name)) (hc : tw (.castable E name))
    (kk : ∀ a : Nat, V G F Q kc ks x.handlerPc L [.ref a] h) : VX G F Q kc ks pc L E h :=
  VX.catch hG hF ht [x1, x2] x suf hs (fun z hz => by
    rcases List.mem_cons.mp hz with e | hz
    · rw [e]
      exact Or.inr ⟨h1, n1, hl1, hn1⟩
    · rw [List.mem_singleton.mp hz]
      exact Or.inr ⟨h2, n2, hl2, hn2⟩) hx h0 hl hc kk
/-- the law's own script -/
def SX (G : Gt) (b n : Nat) (xs : Nat → Int32) : Prop := b < gN G ∧ va_X b n xs G.2.1 G.2.1.heap
theorem V.sld (hF : Ok G F own cc nL ret) {b n j : Nat} {xs : Nat → Int32} (hX : SX G b n xs) (hd : decode cc pc = .ok (.iaload, 1)) (hj : j < n) (hn : n < 2 ^ 31) (kk : V G F Q kc ks (pc + 1) L (.int (xs j) :: st) h) : V G F Q kc ks pc L (.int (nI j) :: .ref b :: st) h := by
  intro H locs ls cells slots hR hS hL hz h1 h2
  have hSt : St G (fS F) := hF.2.2.2.2.2.2
  have e : (nI j).toNatClampNeg = j := nI_clamp (Nat.lt_trans hj hn)
  refine va_sld (H0 := (fS F).heap) (A := gF G) hF.1 hF.2.1 ((hX.2.kept (hSt.2.2 b hX.1)).moved hF.W.alike) (Nat.lt_of_lt_of_le hX.1 hSt.2.1) (Nat.not_le.mpr hX.1) hS (vp_in_nI hj hn) hd ?_
  rw [e]
  exact kk H locs ls cells slots hR hS hL hz h1 h2
theorem V.slen (hF : Ok G F own cc nL ret) {b n : Nat} {xs : Nat → Int32} (hX : SX G b n xs) (hd : decode cc pc = .ok (.arraylength, 1)) (kk : V G F Q kc ks (pc + 1) L (.int (nI n) :: st) h) : V G F Q kc ks pc L (.ref b :: st) h := by
  intro H locs ls cells slots hR hS hL hz h1 h2
  have hSt : St G (fS F) := hF.2.2.2.2.2.2
  exact va_slen (H0 := (fS F).heap) (A := gF G) hF.1 hF.2.1 ((hX.2.kept (hSt.2.2 b hX.1)).moved hF.W.alike) (Nat.lt_of_lt_of_le hX.1 hSt.2.1) (Nat.not_le.mpr hX.1) hS hd (kk H locs ls cells slots hR hS hL hz h1 h2)
theorem V.tabIn (hF : Ok G F own cc nL ret) {dflt lo hi : Int} {offs : Array Int} {len : Nat} {x : Int32} {off : Int} {tgt : Nat} (hd : decode cc pc = .ok (.tableswitch dflt lo hi offs, len)) (h1 : ¬ x.toInt < lo) (h2 : ¬ hi < x.toInt) (ho : offs[(x.toInt - lo).toNat]? = some off) (ht : (pc : Int) + off = (tgt : Int)) (kk : V G F Q kc ks tgt L st h) : V G F Q kc ks pc L (.int x :: st) h :=
  fun H locs ls cells slots hR hS hL hz g1 g2 => lv_tableIn hF.1 hF.2.1 hd h1 h2 ho ht (kk H locs ls cells slots hR hS hL hz g1 g2)
theorem V.tabOut (hF : Ok G F own cc nL ret) {dflt lo hi : Int} {offs : Array Int} {len : Nat} {x : Int32} {tgt : Nat} (hd : decode cc pc = .ok (.tableswitch dflt lo hi offs, len)) (h1 : x.toInt < lo ∨ hi < x.toInt) (ht : (pc : Int) + dflt = (tgt : Int)) (kk : V G F Q kc ks tgt L st h) : V G F Q kc ks pc L (.int x :: st) h :=
  fun H locs ls cells slots hR hS hL hz g1 g2 => lv_tableOut hF.1 hF.2.1 hd h1 ht (kk H locs ls cells slots hR hS hL hz g1 g2)
end Ru
abbrev out1 (o : Nat → Int64) : va_E := .inl (2, 1, .inr (.inl o))
/-- what a call behind the law's own handlers answers -/
def wI (φ : Int32 → Int64) (po : Option Value → Hp → Prop) (px : String → Hp → Prop) (c : Nat) (cd : String → Int32 → Prop) : Option Value → Hp → Prop := fun v h' =>
  (∃ z h2 o, po (some (.int z)) h2 ∧ h2 c = some (out1 o) ∧ v = some (.int 0) ∧ h' = hset h2 c (out1 (vp_updL o 0 (φ z)))) ∨ (∃ E k, px E h' ∧ cd E k ∧ v = some (.int k))
abbrev φ1 (z : Int32) : Int64 := if z = 0 then 0 else 1
abbrev cdI (E : String) (k : Int32) : Prop := E = eI ∧ k = 1
abbrev cdA (E : String) (k : Int32) : Prop := E = eA ∧ k = 1
abbrev cdAS (E : String) (k : Int32) : Prop := (E = eA ∧ k = 1) ∨ (E = eS ∧ k = 2)
abbrev cdIA (E : String) (k : Int32) : Prop := (E = eI ∧ k = 1) ∨ (E = eA ∧ k = 2)
abbrev cdIS (E : String) (k : Int32) : Prop := (E = eI ∧ k = 1) ∨ (E = eS ∧ k = 2)
abbrev cdIAS (E : String) (k : Int32) : Prop := (E = eI ∧ k = 1) ∨ (E = eA ∧ k = 2) ∨ (E = eS ∧ k = 3)
