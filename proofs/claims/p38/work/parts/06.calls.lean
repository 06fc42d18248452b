/-! ===== contracts, branches, calls, answers ===== -/
def cQ (G : Gt) (po : Option Value → Hp → Prop) : Array Value → State → Outcome → State → Prop := fun _ st o t => ∃ (v : Option Value) (h' : Hp), o = .returned v ∧ po v h' ∧ Rp G h' t.heap ∧ va_F (gF G) st t
def cX (G : Gt) (px : String → Hp → Prop) : String → State → State → Prop := fun E st t => ∃ h' : Hp, px E h' ∧ Rp G h' t.heap ∧ va_F (gF G) st t
def cP (G : Gt) (As : List Value) (h : Hp) : Array Value → State → Prop := fun v U => v = As.toArray ∧ St G U ∧ Rp G h U.heap
/-- method y, called with As in the heap h, answers as po says, or throws as px says -/
def Ct (G : Gt) (y : MethodName) (w : Cond) (rf rl mc ms : Nat) (As : List Value) (h : Hp) (po : Option Value → Hp → Prop) (px : String → Hp → Prop) : Prop :=
  vx_Met G.1 y [w] { frames := rf, cells := mc, slots := ms, locals := rl } (cP G As h) (cQ G po) (cX G px) mc ms (gF G)
theorem cP_blind {G : Gt} {As : List Value} {h : Hp} : FrameBlind (cP G As h) := fun _ _ _ _ q => q
abbrev pxN : String → Hp → Prop := fun _ _ => False
def fin (G : Gt) (F : Ft) (po : Option Value → Hp → Prop) (px : String → Hp → Prop) : State → Prop := vx_MQ (fB F) (cQ G po) (cX G px) (fA F) (fS F) (fR F).cells (fR F).slots (gF G)
def entL (n : Nat) (As : List Value) : List (Option Value) := (lg_sl As ++ List.replicate (n - (lg_sl As).length) Slot.unset).map (fun s => match s with
  | .val v => some v
  | _ => none)
theorem entL_LR {n : Nat} {As : List Value} (h : (lg_sl As).length ≤ n) : LR ((lg_sl As ++ List.replicate (n - (lg_sl As).length) Slot.unset).toArray) (entL n As) := by
  refine ⟨(lv_entry As h).2.1, fun i v hv => ?_⟩
  unfold entL at hv
  rw [List.getElem?_map] at hv
  cases hs : (lg_sl As ++ List.replicate (n - (lg_sl As).length) Slot.unset)[i]? with
  | none => rw [hs] at hv; cases hv
  | some s =>
    rw [hs] at hv
    cases s with
    | val w => cases hv; simpa using hs
    | _ => cases hv
theorem entL_sz {n : Nat} {As : List Value} (h : (lg_sl As).length ≤ n) : ((lg_sl As ++ List.replicate (n - (lg_sl As).length) Slot.unset).toArray).size = n := (lv_entry As h).1
theorem Ct.of {G : Gt} {y : MethodName} {cc : ByteArray} {nL rf rl mc ms : Nat} {re : Option FieldType} {As : List Value} {h : Hp} {po : Option Value → Hp → Prop} {px : String → Hp → Prop} (hy : plainName y.cls = true) (hlen : (lg_sl As).length ≤ nL)
    (body : ∀ F : Ft, Ok G F y.cls cc nL re → NoTab F → (fMe F).name = y.name → fR F = { frames := rf, cells := mc, slots := ms, locals := rl } → V G F (fin G F po px) mc ms 0 (entL nL As) [] h) : Ct G y (.code y cc nL re) rf rl mc ms As h po px := by
  refine vx_ofW (cc := cc) (maxL := nL) (ret := re) hy rfl ?_
  intro p e s m args below meth c s₁ B hml ht hP
  obtain ⟨rfl, hst, hR⟩ := hP
  have k := body (p, e, { frames := rf, cells := mc, slots := ms, locals := rl }, s, m, As.toArray, below, meth, c) ⟨B.exec, B.bytes, hml, B.returns, findClass_of_methodNamed B.named, B.notSynchronized, hst⟩ ht (name_of_methodNamed B.named B.method).1 rfl
  rw [lg_entry_eq]
  exact k s.heap [] _ 0 0 hR va_S.rf (entL_LR hlen) ((entL_sz hlen).trans hml.symm) (Nat.le_of_eq (Nat.zero_add _)) (Nat.le_of_eq (Nat.zero_add _))
/-- .. of a method with handlers -/
theorem Ct.ofH {G : Gt} {y : MethodName} {cc : ByteArray} {nL rf rl mc ms : Nat} {re : Option FieldType} {hh : List (Nat × Nat × Nat × Nat)} {As : List Value} {h : Hp} {po : Option Value → Hp → Prop} {px : String → Hp → Prop} (hy : plainName y.cls = true) (hlen : (lg_sl As).length ≤ nL)
    (body : ∀ F : Ft, Ok G F y.cls cc nL re → (fC F).exceptionTable.toList = tableOf hh → fR F = { frames := rf, cells := mc, slots := ms, locals := rl } → V G F (fin G F po px) mc ms 0 (entL nL As) [] h) : Ct G y (.codeWith y cc nL re hh) rf rl mc ms As h po px := by
  refine vx_ofWH (cc := cc) (maxL := nL) (ret := re) (hh := hh) hy rfl ?_
  intro p e s m args below meth c s₁ B hml hP
  obtain ⟨rfl, hst, hR⟩ := hP
  have k := body (p, e, { frames := rf, cells := mc, slots := ms, locals := rl }, s, m, As.toArray, below, meth, c) ⟨B.exec, B.bytes, hml, B.returns, findClass_of_methodNamed B.named, B.notSynchronized, hst⟩ (vx_table (x := y) B (atoms_spec (ws := [Cond.codeWith y cc nL re hh]) B.pre _ List.mem_cons_self)) rfl
  rw [lg_entry_eq]
  exact k s.heap [] _ 0 0 hR va_S.rf (entL_LR hlen) ((entL_sz hlen).trans hml.symm) (Nat.le_of_eq (Nat.zero_add _)) (Nat.le_of_eq (Nat.zero_add _))
/-- a contract that throws nothing, as the kit's plain one -/
theorem Ct.met {G : Gt} {y : MethodName} {w : Cond} {rf rl mc ms : Nat} {As : List Value} {h : Hp} {po : Option Value → Hp → Prop} (hM : Ct G y w rf rl mc ms As h po pxN) : Met G.1 y [w] { frames := rf, cells := mc, slots := ms, locals := rl } (cP G As h) (cQ G po) mc ms (gF G) := by
  intro p e ha hc hk s m args below hf hap hP hK
  obtain ⟨n, o, h1, h2, h3, h4⟩ := hM p e ha hc hk s m args below hf hap hP hK
  refine ⟨n, o, h1, h2, h3, ?_⟩
  rcases h4 with h4 | ⟨q, -, E, ce, L, ⟨h', hx, -⟩, -⟩
  · exact h4
  · exact hx.elim
section C1
variable {G : Gt} {F : Ft} {Q : State → Prop} {own : String} {cc : ByteArray} {nL : Nat} {ret : Option FieldType} {kc ks pc : Nat} {L : List (Option Value)} {st stk : List Value} {h : Hp} {po : Option Value → Hp → Prop} {px : String → Hp → Prop}
theorem V.if_eq (hF : Ok G F own cc nL ret) {x : Int32} {off : Int} {tgt : Nat} (hd : decode cc pc = .ok (.ifCond .eq off, 3)) (ht : (pc : Int) + off = (tgt : Int)) (kt : x = 0 → V G F Q kc ks tgt L st h) (kf : ¬ x = 0 → V G F Q kc ks (pc + 3) L st h) : V G F Q kc ks pc L (.int x :: st) h :=
  fun H locs ls cells slots hR hS hL hz h1 h2 => lv_if_eq hF.1 hF.2.1 hd ht (fun q => kt q H locs ls cells slots hR hS hL hz h1 h2) (fun q => kf q H locs ls cells slots hR hS hL hz h1 h2)
theorem V.if_ne (hF : Ok G F own cc nL ret) {x : Int32} {off : Int} {tgt : Nat} (hd : decode cc pc = .ok (.ifCond .ne off, 3)) (ht : (pc : Int) + off = (tgt : Int)) (kt : ¬ x = 0 → V G F Q kc ks tgt L st h) (kf : x = 0 → V G F Q kc ks (pc + 3) L st h) : V G F Q kc ks pc L (.int x :: st) h :=
  fun H locs ls cells slots hR hS hL hz h1 h2 => lv_if_ne hF.1 hF.2.1 hd ht (fun q => kt q H locs ls cells slots hR hS hL hz h1 h2) (fun q => kf q H locs ls cells slots hR hS hL hz h1 h2)
theorem V.if_lt (hF : Ok G F own cc nL ret) {x : Int32} {off : Int} {tgt : Nat} (hd : decode cc pc = .ok (.ifCond .lt off, 3)) (ht : (pc : Int) + off = (tgt : Int)) (kt : x < 0 → V G F Q kc ks tgt L st h) (kf : ¬ x < 0 → V G F Q kc ks (pc + 3) L st h) : V G F Q kc ks pc L (.int x :: st) h :=
  fun H locs ls cells slots hR hS hL hz h1 h2 => lv_if_lt hF.1 hF.2.1 hd ht (fun q => kt q H locs ls cells slots hR hS hL hz h1 h2) (fun q => kf q H locs ls cells slots hR hS hL hz h1 h2)
theorem V.if_ge (hF : Ok G F own cc nL ret) {x : Int32} {off : Int} {tgt : Nat} (hd : decode cc pc = .ok (.ifCond .ge off, 3)) (ht : (pc : Int) + off = (tgt : Int)) (kt : 0 ≤ x → V G F Q kc ks tgt L st h) (kf : ¬ 0 ≤ x → V G F Q kc ks (pc + 3) L st h) : V G F Q kc ks pc L (.int x :: st) h :=
  fun H locs ls cells slots hR hS hL hz h1 h2 => lv_if_ge hF.1 hF.2.1 hd ht (fun q => kt q H locs ls cells slots hR hS hL hz h1 h2) (fun q => kf q H locs ls cells slots hR hS hL hz h1 h2)
theorem V.if_gt (hF : Ok G F own cc nL ret) {x : Int32} {off : Int} {tgt : Nat} (hd : decode cc pc = .ok (.ifCond .gt off, 3)) (ht : (pc : Int) + off = (tgt : Int)) (kt : 0 < x → V G F Q kc ks tgt L st h) (kf : ¬ 0 < x → V G F Q kc ks (pc + 3) L st h) : V G F Q kc ks pc L (.int x :: st) h :=
  fun H locs ls cells slots hR hS hL hz h1 h2 => lv_if_gt hF.1 hF.2.1 hd ht (fun q => kt q H locs ls cells slots hR hS hL hz h1 h2) (fun q => kf q H locs ls cells slots hR hS hL hz h1 h2)
theorem V.if_le (hF : Ok G F own cc nL ret) {x : Int32} {off : Int} {tgt : Nat} (hd : decode cc pc = .ok (.ifCond .le off, 3)) (ht : (pc : Int) + off = (tgt : Int)) (kt : x ≤ 0 → V G F Q kc ks tgt L st h) (kf : ¬ x ≤ 0 → V G F Q kc ks (pc + 3) L st h) : V G F Q kc ks pc L (.int x :: st) h :=
  fun H locs ls cells slots hR hS hL hz h1 h2 => lv_if_le hF.1 hF.2.1 hd ht (fun q => kt q H locs ls cells slots hR hS hL hz h1 h2) (fun q => kf q H locs ls cells slots hR hS hL hz h1 h2)
theorem V.icmp_eq (hF : Ok G F own cc nL ret) {x y : Int32} {off : Int} {tgt : Nat} (hd : decode cc pc = .ok (.if_icmp .eq off, 3)) (ht : (pc : Int) + off = (tgt : Int)) (kt : x = y → V G F Q kc ks tgt L st h) (kf : ¬ x = y → V G F Q kc ks (pc + 3) L st h) : V G F Q kc ks pc L (.int y :: .int x :: st) h :=
  fun H locs ls cells slots hR hS hL hz h1 h2 => lv_icmp_eq hF.1 hF.2.1 hd ht (fun q => kt q H locs ls cells slots hR hS hL hz h1 h2) (fun q => kf q H locs ls cells slots hR hS hL hz h1 h2)
theorem V.icmp_ne (hF : Ok G F own cc nL ret) {x y : Int32} {off : Int} {tgt : Nat} (hd : decode cc pc = .ok (.if_icmp .ne off, 3)) (ht : (pc : Int) + off = (tgt : Int)) (kt : ¬ x = y → V G F Q kc ks tgt L st h) (kf : x = y → V G F Q kc ks (pc + 3) L st h) : V G F Q kc ks pc L (.int y :: .int x :: st) h :=
  fun H locs ls cells slots hR hS hL hz h1 h2 => lv_icmp_ne hF.1 hF.2.1 hd ht (fun q => kt q H locs ls cells slots hR hS hL hz h1 h2) (fun q => kf q H locs ls cells slots hR hS hL hz h1 h2)
theorem V.icmp_lt (hF : Ok G F own cc nL ret) {x y : Int32} {off : Int} {tgt : Nat} (hd : decode cc pc = .ok (.if_icmp .lt off, 3)) (ht : (pc : Int) + off = (tgt : Int)) (kt : x < y → V G F Q kc ks tgt L st h) (kf : ¬ x < y → V G F Q kc ks (pc + 3) L st h) : V G F Q kc ks pc L (.int y :: .int x :: st) h :=
  fun H locs ls cells slots hR hS hL hz h1 h2 => lv_icmp_lt hF.1 hF.2.1 hd ht (fun q => kt q H locs ls cells slots hR hS hL hz h1 h2) (fun q => kf q H locs ls cells slots hR hS hL hz h1 h2)
theorem V.icmp_ge (hF : Ok G F own cc nL ret) {x y : Int32} {off : Int} {tgt : Nat} (hd : decode cc pc = .ok (.if_icmp .ge off, 3)) (ht : (pc : Int) + off = (tgt : Int)) (kt : y ≤ x → V G F Q kc ks tgt L st h) (kf : ¬ y ≤ x → V G F Q kc ks (pc + 3) L st h) : V G F Q kc ks pc L (.int y :: .int x :: st) h :=
  fun H locs ls cells slots hR hS hL hz h1 h2 => lv_icmp_ge hF.1 hF.2.1 hd ht (fun q => kt q H locs ls cells slots hR hS hL hz h1 h2) (fun q => kf q H locs ls cells slots hR hS hL hz h1 h2)
theorem V.icmp_gt (hF : Ok G F own cc nL ret) {x y : Int32} {off : Int} {tgt : Nat} (hd : decode cc pc = .ok (.if_icmp .gt off, 3)) (ht : (pc : Int) + off = (tgt : Int)) (kt : y < x → V G F Q kc ks tgt L st h) (kf : ¬ y < x → V G F Q kc ks (pc + 3) L st h) : V G F Q kc ks pc L (.int y :: .int x :: st) h :=
  fun H locs ls cells slots hR hS hL hz h1 h2 => lv_icmp_gt hF.1 hF.2.1 hd ht (fun q => kt q H locs ls cells slots hR hS hL hz h1 h2) (fun q => kf q H locs ls cells slots hR hS hL hz h1 h2)
theorem V.icmp_le (hF : Ok G F own cc nL ret) {x y : Int32} {off : Int} {tgt : Nat} (hd : decode cc pc = .ok (.if_icmp .le off, 3)) (ht : (pc : Int) + off = (tgt : Int)) (kt : x ≤ y → V G F Q kc ks tgt L st h) (kf : ¬ x ≤ y → V G F Q kc ks (pc + 3) L st h) : V G F Q kc ks pc L (.int y :: .int x :: st) h :=
  fun H locs ls cells slots hR hS hL hz h1 h2 => lv_icmp_le hF.1 hF.2.1 hd ht (fun q => kt q H locs ls cells slots hR hS hL hz h1 h2) (fun q => kf q H locs ls cells slots hR hS hL hz h1 h2)
/-- ifnull on a stored reference: both ways -/
theorem V.ifnull (hF : Ok G F own cc nL ret) {r : Option Nat} {off : Int} {tgt : Nat} (hd : decode cc pc = .ok (.ifnull off, 3)) (ht : (pc : Int) + off = (tgt : Int)) (kt : r = none → V G F Q kc ks tgt L st h) (kf : ∀ a, r = some a → V G F Q kc ks (pc + 3) L st h) : V G F Q kc ks pc L (va_rf r :: st) h := by
  intro H locs ls cells slots hR hS hL hz h1 h2
  cases r with
  | none => exact lv_ifnullN hF.1 hF.2.1 hd ht (kt rfl H locs ls cells slots hR hS hL hz h1 h2)
  | some a => exact lv_ifnull hF.1 hF.2.1 hd (kf a rfl H locs ls cells slots hR hS hL hz h1 h2)
theorem V.ifnonnull (hF : Ok G F own cc nL ret) {r : Option Nat} {off : Int} {tgt : Nat} (hd : decode cc pc = .ok (.ifnonnull off, 3)) (ht : (pc : Int) + off = (tgt : Int)) (kt : ∀ a, r = some a → V G F Q kc ks tgt L st h) (kf : r = none → V G F Q kc ks (pc + 3) L st h) : V G F Q kc ks pc L (va_rf r :: st) h := by
  intro H locs ls cells slots hR hS hL hz h1 h2
  cases r with
  | none => exact lv_ifnonnullN hF.1 hF.2.1 hd (kf rfl H locs ls cells slots hR hS hL hz h1 h2)
  | some a => exact lv_ifnonnull hF.1 hF.2.1 hd ht (kt a rfl H locs ls cells slots hR hS hL hz h1 h2)
theorem V.irem (hF : Ok G F own cc nL ret) {x y : Int32} (hd : decode cc pc = .ok (.irem, 1)) (hy : ¬ y = 0) (kk : V G F Q kc ks (pc + 1) L (.int (x - x / y * y) :: st) h) : V G F Q kc ks pc L (.int y :: .int x :: st) h :=
  fun H locs ls cells slots hR hS hL hz h1 h2 => lv_irem hF.1 hF.2.1 hd hy (kk H locs ls cells slots hR hS hL hz h1 h2)
theorem V.ddiv (hF : Ok G F own cc nL ret) {x y : UInt64} (hd : decode cc pc = .ok (.ddiv, 1)) (hy : vf_n64 (FP.ddiv x y)) (kk : V G F Q kc ks (pc + 1) L (.double (FP.ddiv x y) :: st) h) : V G F Q kc ks pc L (.double y :: .double x :: st) h :=
  fun H locs ls cells slots hR hS hL hz h1 h2 => lv_ddiv hF.1 hF.2.1 hd hy (kk H locs ls cells slots hR hS hL hz h1 h2)
theorem V.dconst0 (hF : Ok G F own cc nL ret) (hd : decode cc pc = .ok (.dconst 0, 1)) (kk : V G F Q kc ks (pc + 1) L (.double 0 :: st) h) : V G F Q kc ks pc L st h :=
  fun H locs ls cells slots hR hS hL hz h1 h2 => lv_dconst0 hF.1 hF.2.1 hd (kk H locs ls cells slots hR hS hL hz h1 h2)
theorem V.ldc (hG : GOk G) (hF : Ok G F own cc nL ret) {ix : Nat} {v : Int32} (hw : Cond.constant own ix v ∈ lw_tbl ∧ kw (Cond.constant own ix v) = true) (hd : decode cc pc = .ok (.ldc ix, 2)) (kk : V G F Q kc ks (pc + 2) L (.int v :: st) h) : V G F Q kc ks pc L st h :=
  fun H locs ls cells slots hR hS hL hz h1 h2 => lv_ldc hF.1 hF.2.1 hF.2.2.2.2.1 (hF.wd hG hw.1 hw.2) hd (kk H locs ls cells slots hR hS hL hz h1 h2)
theorem V.ldc2 (hG : GOk G) (hF : Ok G F own cc nL ret) {ix : Nat} {v : Int64} (hw : Cond.constantLong own ix v ∈ lw_tbl ∧ kw (Cond.constantLong own ix v) = true) (hd : decode cc pc = .ok (.ldc2_w ix, 3)) (kk : V G F Q kc ks (pc + 3) L (.long v :: st) h) : V G F Q kc ks pc L st h :=
  fun H locs ls cells slots hR hS hL hz h1 h2 => lv_ldc2 hF.1 hF.2.1 hF.2.2.2.2.1 (hF.wd hG hw.1 hw.2) hd (kk H locs ls cells slots hR hS hL hz h1 h2)
-- answers
theorem V.reti (hF : Ok G F own cc nL (some .int)) {v : Int32} (hd : decode cc pc = .ok (.ireturn, 1)) (hp : po (some (.int v)) h) : V G F (fin G F po px) kc ks pc L [.int v] h := by
  intro H locs ls cells slots hR hS hL hz h1 h2
  refine vx_ret (W.widen (k := (fR F).cells) (n := (fR F).slots) (by omega) (by omega) ?_)
  exact W.iret hF.1 hF.2.1 hF.2.2.2.1 (fun t ht hW => ⟨_, h, rfl, hp, by rw [ht]; exact hR, hS.F ht⟩) hS.2.2 hd hF.2.2.2.2.2.1
theorem V.retz (hF : Ok G F own cc nL (some .boolean)) {v : Int32} (hd : decode cc pc = .ok (.ireturn, 1)) (hn : narrow .boolean (.int v) = .int v) (hp : po (some (.int v)) h) : V G F (fin G F po px) kc ks pc L [.int v] h := by
  intro H locs ls cells slots hR hS hL hz h1 h2
  refine vx_ret (W.widen (k := (fR F).cells) (n := (fR F).slots) (by omega) (by omega) ?_)
  exact W.zret hF.1 hF.2.1 hF.2.2.2.1 hn (fun t ht hW => ⟨_, h, rfl, hp, by rw [ht]; exact hR, hS.F ht⟩) hS.2.2 hd hF.2.2.2.2.2.1
theorem V.retl (hF : Ok G F own cc nL (some .long)) {v : Int64} (hd : decode cc pc = .ok (.lreturn, 1)) (hp : po (some (.long v)) h) : V G F (fin G F po px) kc ks pc L [.long v] h := by
  intro H locs ls cells slots hR hS hL hz h1 h2
  refine vx_ret (W.widen (k := (fR F).cells) (n := (fR F).slots) (by omega) (by omega) ?_)
  exact W.lret hF.1 hF.2.1 hF.2.2.2.1 (fun t ht hW => ⟨_, h, rfl, hp, by rw [ht]; exact hR, hS.F ht⟩) hS.2.2 hd hF.2.2.2.2.2.1
theorem V.retd (hF : Ok G F own cc nL (some .double)) {v : UInt64} (hd : decode cc pc = .ok (.dreturn, 1)) (hp : po (some (.double v)) h) : V G F (fin G F po px) kc ks pc L [.double v] h := by
  intro H locs ls cells slots hR hS hL hz h1 h2
  refine vx_ret (W.widen (k := (fR F).cells) (n := (fR F).slots) (by omega) (by omega) ?_)
  exact W.dret hF.1 hF.2.1 hF.2.2.2.1 (fun t ht hW => ⟨_, h, rfl, hp, by rw [ht]; exact hR, hS.F ht⟩) hS.2.2 hd hF.2.2.2.2.2.1
theorem V.reta {C : String} (hF : Ok G F own cc nL (some (.object C))) {a : Nat} (hd : decode cc pc = .ok (.areturn, 1)) (hp : po (some (.ref a)) h) : V G F (fin G F po px) kc ks pc L [.ref a] h := by
  intro H locs ls cells slots hR hS hL hz h1 h2
  refine vx_ret (W.widen (k := (fR F).cells) (n := (fR F).slots) (by omega) (by omega) ?_)
  exact W.aret hF.1 hF.2.1 hF.2.2.2.1 (Or.inl ⟨_, rfl⟩) (Or.inr ⟨_, rfl⟩) (fun t ht hW => ⟨_, h, rfl, hp, by rw [ht]; exact hR, hS.F ht⟩) hS.2.2 hd hF.2.2.2.2.2.1
theorem V.retv (hF : Ok G F own cc nL none) (hd : decode cc pc = .ok (.return_, 1)) (hp : po none h) : V G F (fin G F po px) kc ks pc L [] h := by
  intro H locs ls cells slots hR hS hL hz h1 h2
  refine vx_ret (W.widen (k := (fR F).cells) (n := (fR F).slots) (by omega) (by omega) ?_)
  exact W.vret hF.1 hF.2.1 hF.2.2.2.1 (fun t ht hW => ⟨_, h, rfl, hp, by rw [ht]; exact hR, hS.F ht⟩) hS.2.2 hd hF.2.2.2.2.2.1
theorem VX.out (hF : Ok G F own cc nL ret) (hT : NoTab F) {E : String} (hp : px E h) : VX G F (fin G F po px) kc ks pc L E h := by
  intro H locs ls rest cells slots q ce hR hS hL hz h1 h2 hce hcv hcl
  exact vx_out (fun x hx => (hT x hx).elim) hF.2.2.2.2.2.1 hce hcv hcl (fun t ht hW => ⟨h, hp, by rw [ht]; exact hR, hS.F ht⟩) hS.2.2 (by omega) (by omega)
-- calls
def tw (w : Cond) : Prop := w ∈ lw_tbl ∧ kw w = true
def okn1 (y : MethodName) (n : Nat) : Prop := (y.cls ≠ "java/lang/invoke/MethodHandle" ∧ y.cls ≠ "java/lang/invoke/VarHandle") ∧ (parseMethodDescriptor y.desc).map (fun d => d.parameters.length) = some n
theorem okn1.len {y : MethodName} {n : Nat} (h : okn1 y n) : ∀ sig, parseMethodDescriptor y.desc = some sig → n = sig.parameters.length := by
  intro sig hs
  have h2 := h.2
  rw [hs] at h2
  exact (Option.some.inj h2).symm
theorem one_word (hG : GOk G) (hF : Ok G F own cc nL ret) {w : Cond} (hw : w ∈ lw_tbl) (hg : goodWord w = true) : ∀ w' ∈ [w], ∀ (a' : Array Value) (U : State), (fS F).WarmedH U.vm → w'.before a' U = true := by
  intro w' hw' a' U hU
  rw [List.mem_singleton.mp hw']
  refine word_at hU (good_of_word hg) (hF.wd hG hw ?_)
  cases w <;> first | exact hg | rfl
theorem cP_here (hF : Ok G F own cc nL ret) {As : List Value} {H : Heap} {locs : List Loc} (hR : Rp G h H) (hS : va_S (gF G) (fS F).heap H locs) : ∀ U : State, U.heap = H → (fS F).WarmedH U.vm → cP G As h As.toArray U := by
  intro U hU hW
  have hSt : St G (fS F) := hF.2.2.2.2.2.2
  refine ⟨rfl, ⟨State.WarmedH.trans hSt.1 hW, by rw [hU]; exact Nat.le_trans hSt.2.1 hS.1, fun a ha => ?_⟩, by rw [hU]; exact hR⟩
  rw [hU, hS.2.1 a (Nat.lt_of_lt_of_le ha hSt.2.1) (Nat.not_le.mpr ha)]
  exact hSt.2.2 a ha
theorem V.ofRun (hF : Ok G F own cc nL ret) {rest : List Value} {a : Array Value} {mc ms : Nat}
    (hrun : ∀ (H : Heap) (locs : List Loc) (ls : Array Slot) (cells slots : Nat), Rp G h H → va_S (gF G) (fS F).heap H locs → ls.size = (fC F).maxLocals → cells + mc ≤ (fR F).cells → slots + ms ≤ (fR F).slots → vx_Run F.1 G.1 F.2.1 (fR F) (fS F) (fM F) (fA F) (fB F) (fMe F) (fC F) H locs cells slots mc ms (F0 (fM F) pc ls stk) rest (cQ G po a) (cX G px) (gF G))
    (kk : ∀ v h', po v h' → V G F Q kc ks (pc + 3) L (v.toList ++ rest) h') (kx : ∀ E h', px E h' → VX G F Q kc ks pc L E h') : V G F Q (kc + mc) (ks + ms) pc L stk h := by
  intro H locs ls cells slots hR hS hL hz h1 h2 T hT X
  have keep : ∀ {st₀ t T' : State} {L' : List Loc}, st₀.heap = H → T'.heap = t.heap → va_F (gF G) st₀ t → (∀ q ∈ L', gF G q.base) → va_S (gF G) (fS F).heap T'.heap (locs ++ L') := by
    intro st₀ t T' L' h0 e1 hv hL'
    obtain ⟨hz2, hk2⟩ := hv
    rw [h0] at hz2 hk2
    refine ⟨Nat.le_trans hS.1 (by rw [e1]; exact hz2), fun q g1 g2 => ?_, fun q hq => ?_⟩
    · rw [e1, hk2 q (Nat.lt_of_lt_of_le g1 hS.1) g2]
      exact hS.2.1 q g1 g2
    · rcases List.mem_append.mp hq with h | h
      · exact hS.2.2 q h
      · exact hL' q h
  rcases hrun H locs ls cells slots hR hS hz (by omega) (by omega) T hT X with ⟨v, st₀, t, T', L', h0, X', hL', e1, e2, ⟨v', h', hv, hpo, hR', hfr⟩, sto⟩ | ⟨q, st₀, t, T', L', E, ce, h0, X', hL', e1, e2, ⟨h', hpx, hR', hfr⟩, hce, hcv, hcl, sto⟩
  · cases hv
    obtain ⟨t2, a1, b1⟩ := kk v h' hpo T'.heap (locs ++ L') ls (cells + mc) (slots + ms) (by rw [e1]; exact hR') (keep h0 e1 hfr hL') hL hz (by omega) (by omega) T' rfl X'
    exact ⟨t2, sto t2 a1, b1⟩
  · obtain ⟨t2, a1, b1⟩ := kx E h' hpx T'.heap (locs ++ L') ls rest (cells + mc) (slots + ms) q ce (by rw [e1]; exact hR') (keep h0 e1 hfr hL') hL hz (by omega) (by omega) (by rw [e1]; exact hce) hcv hcl T' rfl X'
    exact ⟨t2, sto.trans a1, b1⟩
theorem vx_ofRun {p : Program} {l : Launch} {e : Env} {R : Room} {s : State} {m : MethodId} {args : Array Value} {below : List Frame} {meth : Method} {c : Code} {H : Heap} {locs : List Loc} {cells slots mc ms : Nat} {g : JFrame} {rest : List Value} {Qa : State → Outcome → State → Prop} {XC : String → State → State → Prop} {free : Addr → Prop} (hr : va_Run p l e R s m args below meth c H locs cells slots mc ms g rest Qa free) : vx_Run p l e R s m args below meth c H locs cells slots mc ms g rest Qa XC free :=
  fun T hT X => Or.inl (hr T hT X)
variable {y : MethodName} {bytes : ByteArray} {nM rf rl mc ms ix n ci b : Nat} {re : Option FieldType} {As vs : List Value} {T : u_T} {N : Nat}
def lkV (own : String) (ix : Nat) (y : MethodName) (bytes : ByteArray) (nM : Nat) (re : Option FieldType) (n : Nat) : Prop := tw (.methodLink own ix y) ∧ tw (.instanceMethod y) ∧ tw (.selects y.cls y y) ∧ tw (.initialized y.cls) ∧ (Cond.code y bytes nM re ∈ lw_tbl ∧ goodWord (Cond.code y bytes nM re) = true) ∧ okn1 y n
theorem V.callV (hG : GOk G) (hF : Ok G F own cc nL ret) (hl : lkV own ix y bytes nM re n) (hd : decode cc pc = .ok (.invokevirtual ix, 3)) (hM : Ct G y (.code y bytes nM re) rf rl mc ms (.ref b :: As) h po px)
    (hb : h b = some (.inr (ci, vs))) (hcl : vwCl[ci]? = some (y.cls, T, N)) (hn : As.length = n) (hroom : rf + 1 ≤ (fR F).frames ∧ 8 + (nM + 11) + rl ≤ (fR F).locals) (hsum : (st.map fun v => v.category).sum ≤ 8) (hst : stk = As.reverse ++ .ref b :: st)
    (kk : ∀ v h', po v h' → V G F Q kc ks (pc + 3) L (v.toList ++ st) h') (kx : ∀ E h', px E h' → VX G F Q kc ks pc L E h') : V G F Q (kc + mc) (ks + ms) pc L stk h := by
  subst hst
  obtain ⟨w1, w2, w3, w4, w5, w6⟩ := hl
  have hK := hF.K hG
  refine V.ofRun hF (a := (Value.ref b :: As).toArray) (rest := st) (fun H locs ls cells slots hR hS hz h1 h2 => ?_) kk kx
  exact vx_runV (As := As) (rest := st) (n := n) (C := y.cls) (Ts := []) ⟨hF.1, hF.2.1, hF.2.2.1, hF.2.2.2.2.1, fun w h => by cases h⟩ hM
    ⟨⟨rfl, rfl, hroom.1, hroom.2, one_word hG hF w5.1 w5.2, List.mem_cons_self, hF.wd hG w5.1 (by simpa [kw] using w5.2), hF.wd hG w4.1 w4.2, w6.1, w6.len, hF.wd hG w1.1 w1.2⟩, hF.wd hG w2.1 w2.2, hF.wd hG w3.1 w3.2⟩
    ⟨cP_blind, va_recv (q0 := 0) hK (hR.one hb) hcl rfl, cP_here hF hR hS⟩ rfl hn (hz.trans hF.2.2.1) rfl (lv_room hsum) hd ⟨h1, h2⟩
def lkS (own : String) (ix : Nat) (y : MethodName) (bytes : ByteArray) (nM : Nat) (re : Option FieldType) (n : Nat) : Prop := tw (.methodLink own ix y) ∧ tw (.static y) ∧ tw (.initialized y.cls) ∧ (Cond.code y bytes nM re ∈ lw_tbl ∧ goodWord (Cond.code y bytes nM re) = true) ∧ okn1 y n
theorem V.callS (hG : GOk G) (hF : Ok G F own cc nL ret) (hl : lkS own ix y bytes nM re n) (hd : decode cc pc = .ok (.invokestatic ix, 3)) (hM : Ct G y (.code y bytes nM re) rf rl mc ms As h po px)
    (hn : As.length = n) (hroom : rf + 1 ≤ (fR F).frames ∧ 8 + (nM + 11) + rl ≤ (fR F).locals) (hsum : (st.map fun v => v.category).sum ≤ 8) (hst : stk = As.reverse ++ st)
    (kk : ∀ v h', po v h' → V G F Q kc ks (pc + 3) L (v.toList ++ st) h') (kx : ∀ E h', px E h' → VX G F Q kc ks pc L E h') : V G F Q (kc + mc) (ks + ms) pc L stk h := by
  subst hst
  obtain ⟨w1, w2, w4, w5, w6⟩ := hl
  refine V.ofRun hF (a := As.toArray) (rest := st) (fun H locs ls cells slots hR hS hz h1 h2 => ?_) kk kx
  exact vx_runS (As := As) (rest := st) (n := n) (Ts := []) ⟨hF.1, hF.2.1, hF.2.2.1, hF.2.2.2.2.1, fun w h => by cases h⟩ hM
    ⟨⟨rfl, rfl, hroom.1, hroom.2, one_word hG hF w5.1 w5.2, List.mem_cons_self, hF.wd hG w5.1 (by simpa [kw] using w5.2), hF.wd hG w4.1 w4.2, w6.1, w6.len, hF.wd hG w1.1 w1.2⟩, hF.wd hG w2.1 w2.2⟩
    ⟨cP_blind, cP_here hF hR hS⟩ rfl hn (hz.trans hF.2.2.1) rfl (lv_room hsum) hd ⟨h1, h2⟩
/-- .. of a method with handlers -/
def lkSW (own : String) (ix : Nat) (y : MethodName) (bytes : ByteArray) (nM : Nat) (re : Option FieldType) (hh : List (Nat × Nat × Nat × Nat)) (n : Nat) : Prop := tw (.methodLink own ix y) ∧ tw (.static y) ∧ tw (.initialized y.cls) ∧ (Cond.codeWith y bytes nM re hh ∈ lw_tbl ∧ goodWord (Cond.codeWith y bytes nM re hh) = true) ∧ okn1 y n
theorem V.callSW (hG : GOk G) (hF : Ok G F own cc nL ret) {hh : List (Nat × Nat × Nat × Nat)} (hl : lkSW own ix y bytes nM re hh n) (hd : decode cc pc = .ok (.invokestatic ix, 3)) (hM : Ct G y (.codeWith y bytes nM re hh) rf rl mc ms As h po px)
    (hn : As.length = n) (hroom : rf + 1 ≤ (fR F).frames ∧ 8 + (nM + 11) + rl ≤ (fR F).locals) (hsum : (st.map fun v => v.category).sum ≤ 8) (hst : stk = As.reverse ++ st)
    (kk : ∀ v h', po v h' → V G F Q kc ks (pc + 3) L (v.toList ++ st) h') (kx : ∀ E h', px E h' → VX G F Q kc ks pc L E h') : V G F Q (kc + mc) (ks + ms) pc L stk h := by
  subst hst
  obtain ⟨w1, w2, w4, w5, w6⟩ := hl
  refine V.ofRun hF (a := As.toArray) (rest := st) (fun H locs ls cells slots hR hS hz h1 h2 => ?_) kk kx
  exact vx_runSX (As := As) (rest := st) (n := n) (Ts := []) (hh := hh) ⟨hF.1, hF.2.1, hF.2.2.1, hF.2.2.2.2.1, fun w h => by cases h⟩ hM
    ⟨⟨rfl, rfl, hroom.1, hroom.2, one_word hG hF w5.1 w5.2, List.mem_cons_self⟩, hF.wd hG w5.1 (by simpa [kw] using w5.2), hF.wd hG w4.1 w4.2, w6.1, w6.len, hF.wd hG w1.1 w1.2, hF.wd hG w2.1 w2.2⟩
    ⟨cP_blind, cP_here hF hR hS⟩ rfl hn (hz.trans hF.2.2.1) rfl (lv_room hsum) hd ⟨h1, h2⟩
def lkI (own : String) (ix : Nat) (y : MethodName) (bytes : ByteArray) (nM n : Nat) : Prop := (tw (.methodLink own ix y) ∨ ∃ host, tw (.methodLinkNest own ix y host)) ∧ tw (.instanceMethod y) ∧ tw (.initialized y.cls) ∧ (Cond.code y bytes nM none ∈ lw_tbl ∧ goodWord (Cond.code y bytes nM none) = true) ∧ okn1 y n ∧ y.name = "<init>"
/-- a constructor -/
theorem V.callI (hG : GOk G) (hF : Ok G F own cc nL ret) (hl : lkI own ix y bytes nM n) (hd : decode cc pc = .ok (.invokespecial ix, 3)) (hM : Ct G y (.code y bytes nM none) rf rl mc ms (.ref b :: As) h po pxN)
    (hn : As.length = n) (hroom : rf + 1 ≤ (fR F).frames ∧ 8 + (nM + 11) + rl ≤ (fR F).locals) (hsum : (st.map fun v => v.category).sum ≤ 8) (hst : stk = As.reverse ++ .ref b :: st)
    (kk : ∀ v h', po v h' → V G F Q kc ks (pc + 3) L (v.toList ++ st) h') : V G F Q (kc + mc) (ks + ms) pc L stk h := by
  subst hst
  obtain ⟨w1, w2, w4, w5, w6, w7⟩ := hl
  refine V.ofRun hF (px := pxN) (a := (Value.ref b :: As).toArray) (rest := st) (fun H locs ls cells slots hR hS hz h1 h2 => ?_) kk (fun E h' hx => hx.elim)
  rcases w1 with w1 | ⟨host, w1⟩
  · exact vx_ofRun (va_runI (As := As) (rest := st) (n := n) (Ts := []) ⟨hF.1, hF.2.1, hF.2.2.1, hF.2.2.2.2.1, fun w h => by cases h⟩ hM.met
      ⟨⟨rfl, rfl, hroom.1, hroom.2, one_word hG hF w5.1 w5.2, List.mem_cons_self, hF.wd hG w5.1 (by simpa [kw] using w5.2), hF.wd hG w4.1 w4.2, w6.1, w6.len, hF.wd hG w1.1 w1.2⟩, w7, hF.wd hG w2.1 w2.2⟩
      ⟨cP_blind, cP_here hF hR hS⟩ rfl hn (hz.trans hF.2.2.1) rfl (lv_room hsum) hd ⟨h1, h2⟩)
  · exact vx_ofRun (va_runIN (As := As) (rest := st) (n := n) (Ts := []) ⟨hF.1, hF.2.1, hF.2.2.1, hF.2.2.2.2.1, fun w h => by cases h⟩ hM.met
      ⟨⟨⟨rfl, rfl, hroom.1, hroom.2, one_word hG hF w5.1 w5.2, List.mem_cons_self⟩, hF.wd hG w5.1 (by simpa [kw] using w5.2), hF.wd hG w4.1 w4.2, w6.1, w6.len, hF.wd hG w1.1 w1.2⟩, w7, hF.wd hG w2.1 w2.2⟩
      ⟨cP_blind, cP_here hF hR hS⟩ rfl hn (hz.trans hF.2.2.1) rfl (lv_room hsum) hd ⟨h1, h2⟩)
def lkVN (own : String) (ix : Nat) (y : MethodName) (bytes : ByteArray) (nM : Nat) (re : Option FieldType) (n : Nat) : Prop := (∃ host, tw (.methodLinkNest own ix y host)) ∧ tw (.instanceMethod y) ∧ tw (.selects y.cls y y) ∧ tw (.initialized y.cls) ∧ (Cond.code y bytes nM re ∈ lw_tbl ∧ goodWord (Cond.code y bytes nM re) = true) ∧ okn1 y n
/-- a nest mate's private method, that throws nothing -/
theorem V.callVN (hG : GOk G) (hF : Ok G F own cc nL ret) (hl : lkVN own ix y bytes nM re n) (hd : decode cc pc = .ok (.invokevirtual ix, 3)) (hM : Ct G y (.code y bytes nM re) rf rl mc ms (.ref b :: As) h po pxN)
    (hb : h b = some (.inr (ci, vs))) (hcl : vwCl[ci]? = some (y.cls, T, N)) (hn : As.length = n) (hroom : rf + 1 ≤ (fR F).frames ∧ 8 + (nM + 11) + rl ≤ (fR F).locals) (hsum : (st.map fun v => v.category).sum ≤ 8) (hst : stk = As.reverse ++ .ref b :: st)
    (kk : ∀ v h', po v h' → V G F Q kc ks (pc + 3) L (v.toList ++ st) h') : V G F Q (kc + mc) (ks + ms) pc L stk h := by
  subst hst
  obtain ⟨⟨host, w1⟩, w2, w3, w4, w5, w6⟩ := hl
  have hK := hF.K hG
  refine V.ofRun hF (px := pxN) (a := (Value.ref b :: As).toArray) (rest := st) (fun H locs ls cells slots hR hS hz h1 h2 => ?_) kk (fun E h' hx => hx.elim)
  exact vx_ofRun (va_runVN (As := As) (rest := st) (n := n) (C := y.cls) (Ts := []) ⟨hF.1, hF.2.1, hF.2.2.1, hF.2.2.2.2.1, fun w h => by cases h⟩ hM.met
    ⟨⟨⟨rfl, rfl, hroom.1, hroom.2, one_word hG hF w5.1 w5.2, List.mem_cons_self⟩, hF.wd hG w5.1 (by simpa [kw] using w5.2), hF.wd hG w4.1 w4.2, w6.1, w6.len, hF.wd hG w1.1 w1.2⟩, hF.wd hG w2.1 w2.2, hF.wd hG w3.1 w3.2⟩
    ⟨cP_blind, va_recv (q0 := 0) hK (hR.one hb) hcl rfl, cP_here hF hR hS⟩ rfl hn (hz.trans hF.2.2.1) rfl (lv_room hsum) hd ⟨h1, h2⟩)
theorem V.objInit (hG : GOk G) (hF : Ok G F own cc nL ret) {a : Nat} (w1 : tw (.methodLink own ix objectInit)) (w2 : tw (.instanceMethod objectInit)) (w3 : tw (.code objectInit ⟨#[0xb1]⟩ 1 none)) (hd : decode cc pc = .ok (.invokespecial ix, 3)) (hroom : 1 ≤ (fR F).frames ∧ (st.map fun v => v.category).sum + 12 ≤ (fR F).locals)
    (kk : V G F Q kc ks (pc + 3) L st h) : V G F Q kc ks pc L (.ref a :: st) h := by
  intro H locs ls cells slots hR hS hL hz h1 h2
  refine W.objInit hF.1 hF.2.1 hF.2.2.2.2.1 (hF.wd hG w1.1 w1.2) (hF.wd hG w2.1 w2.2) (hF.wd hG w3.1 w3.2) rfl hz rfl hd hroom.1 (by show 2 * 0 + _ + 12 ≤ _; omega) ?_
  exact kk H locs ls cells slots hR hS hL hz h1 h2
theorem V.mmin (hG : GOk G) (hF : Ok G F own cc nL ret) {x y : Int32} (w1 : tw (.methodLink own ix Lib.Math.min.name)) (w2 : tw (.static Lib.Math.min.name)) (w3 : tw (.initialized "java/lang/Math")) (w4 : tw (.code Lib.Math.min.name Lib.Math.min.code 2 (some .int))) (hd : decode cc pc = .ok (.invokestatic ix, 3)) (hroom : 1 ≤ (fR F).frames ∧ (st.map fun v => v.category).sum + 13 ≤ (fR F).locals)
    (kk : V G F Q kc ks (pc + 3) L (.int (if y < x then y else x) :: st) h) : V G F Q kc ks pc L (.int y :: .int x :: st) h := by
  intro H locs ls cells slots hR hS hL hz h1 h2
  refine va_mmin hF.1 hF.2.1 hz.symm hF.2.2.2.2.1 (hF.wd hG w1.1 w1.2) (hF.wd hG w2.1 w2.2) (hF.wd hG w3.1 w3.2) (hF.wd hG w4.1 w4.2) hroom.1 hroom.2 (by omega) (by omega) hd ?_
  exact kk H locs ls cells slots hR hS hL hz h1 h2
/-- throw new cls(text) -/
def lkT (own : String) (ik is ic : Nat) (cls text : String) : Prop := tw (.classLink own ik cls) ∧ tw (.initialized cls) ∧ Cond.stringRef own is text ∈ lw_tbl ∧ Bundle.fit cls = true ∧ (∀ w ∈ vx_atS own ic cls ["java/lang/RuntimeException", "java/lang/Exception"], tw w) ∧ ∀ w ∈ Cond.classLink own ik cls :: Cond.initialized cls :: vx_atS own ic cls ["java/lang/RuntimeException", "java/lang/Exception"], vx_ot w = true
theorem V.throwS (hG : GOk G) (hF : Ok G F own cc nL ret) (hT : NoTab F) {ik is ic : Nat} {cls text : String} (hl : lkT own ik is ic cls text) (d0 : decode cc pc = .ok (.new ik, 3)) (d3 : decode cc (pc + 3) = .ok (.dup, 1)) (d4 : decode cc (pc + 4) = .ok (.ldc is, 2)) (d6 : decode cc (pc + 6) = .ok (.invokespecial ic, 3)) (d9 : decode cc (pc + 9) = .ok (.athrow, 1))
    (hroom : 5 < (fR F).frames ∧ (st.map fun v => v.category).sum + 82 ≤ (fR F).locals) (hp : px cls h) : V G F (fin G F po px) (kc + 1) (ks + 6) pc L st h := by
  intro H locs ls cells slots hR hS hL hz h1 h2
  have hSt : St G (fS F) := hF.2.2.2.2.2.2
  obtain ⟨w1, w2, w3, w4, w5, w6⟩ := hl
  obtain ⟨sa, hsa⟩ := hG.2.2.2.2.2 own is text w3
  have kept : ∀ a : Nat, a < G.2.1.heap.size → ¬ gF G a → (fS F).heap[a]? = G.2.1.heap[a]? := fun a ha _ => hSt.2.2 a ha
  refine vx_throwS (names := ["java/lang/RuntimeException", "java/lang/Exception"]) (A := gF G) hF.1 hF.2.1 hG.1 hF.2.2.2.2.1 w4 (by decide +kernel) (hF.wd hG w1.1 w1.2) (hF.wd hG w2.1 w2.2) (vk_R.warm hSt.1 hsa) (fun w hw => hF.wd hG (w5 w hw).1 (w5 w hw).2) w6
    (vx_Zq.moved hSt.1.alike (hG.2.2.2.1.kept kept)) (vx_Zq.moved hSt.1.alike (hG.2.2.2.2.1.kept kept)) hS hz d0 d3 d4 d6 d9 (fun x hx => (hT x hx).elim) hroom.1 hroom.2 (by omega) (by omega) hF.2.2.2.2.2.1 (fun t hv e1 e2 => ?_) hS.2.2 (by omega) (by omega)
  exact ⟨h, hp, hR.kept e2, Nat.le_trans hS.1 e1, fun q g1 g2 => (e2 q (Nat.lt_of_lt_of_le g1 hS.1)).trans (hS.2.1 q g1 g2)⟩
end C1
