section
-- ===== PART A: goes FIRST, ahead of the names: the tables' words, and 'selects' of the private methods out of them =====
/-- a private method of a class that the tables say can be made, by its rows of tables_1 -/
def lw_okq (q : MethodName × Nat) : Prop := (q.1.cls ≠ "java/lang/invoke/MethodHandle" ∧ q.1.cls ≠ "java/lang/invoke/VarHandle") ∧ Cond.instantiable q.1.cls q.2 ∈ tables_1 ∧ Cond.privateMethod q.1 ∈ tables_1 ∧ Cond.instanceMethod q.1 ∈ tables_1
theorem lw_p0 : lw_okq (⟨"java/lang/Throwable", "fillInStackTrace", "(I)Ljava/lang/Throwable;"⟩, 6) := ⟨⟨by decide +kernel, by decide +kernel⟩, List.mem_of_getElem? (i := 142) (by decide +kernel), List.mem_of_getElem? (i := 140) (by decide +kernel), List.mem_of_getElem? (i := 141) (by decide +kernel)⟩
theorem lw_p1 : lw_okq (⟨"TallyWax", "passOneYear", "()I"⟩, 9) := ⟨⟨by decide +kernel, by decide +kernel⟩, List.mem_of_getElem? (i := 15) (by decide +kernel), List.mem_of_getElem? (i := 172) (by decide +kernel), List.mem_of_getElem? (i := 173) (by decide +kernel)⟩
theorem lw_p2 : lw_okq (⟨"TallyWax", "heatAfter", "(I)I"⟩, 9) := ⟨⟨by decide +kernel, by decide +kernel⟩, List.mem_of_getElem? (i := 15) (by decide +kernel), List.mem_of_getElem? (i := 176) (by decide +kernel), List.mem_of_getElem? (i := 177) (by decide +kernel)⟩
theorem lw_p3 : lw_okq (⟨"TallyWax$Tablet", "meltsAt", "(I)Z"⟩, 3) := ⟨⟨by decide +kernel, by decide +kernel⟩, List.mem_of_getElem? (i := 185) (by decide +kernel), List.mem_of_getElem? (i := 183) (by decide +kernel), List.mem_of_getElem? (i := 184) (by decide +kernel)⟩
theorem lw_p4 : lw_okq (⟨"TallyWax", "tabletAt", "(I)LTallyWax$Tablet;"⟩, 9) := ⟨⟨by decide +kernel, by decide +kernel⟩, List.mem_of_getElem? (i := 15) (by decide +kernel), List.mem_of_getElem? (i := 238) (by decide +kernel), List.mem_of_getElem? (i := 239) (by decide +kernel)⟩
theorem lw_p5 : lw_okq (⟨"TallyWax", "linesWith", "(II)LTallyWax$LineList;"⟩, 9) := ⟨⟨by decide +kernel, by decide +kernel⟩, List.mem_of_getElem? (i := 15) (by decide +kernel), List.mem_of_getElem? (i := 251) (by decide +kernel), List.mem_of_getElem? (i := 252) (by decide +kernel)⟩
theorem lw_p6 : lw_okq (⟨"TallyWax", "isPresent", "(I)Z"⟩, 9) := ⟨⟨by decide +kernel, by decide +kernel⟩, List.mem_of_getElem? (i := 15) (by decide +kernel), List.mem_of_getElem? (i := 268) (by decide +kernel), List.mem_of_getElem? (i := 269) (by decide +kernel)⟩
theorem lw_p7 : lw_okq (⟨"TallyWax", "balanceOf", "(I)I"⟩, 9) := ⟨⟨by decide +kernel, by decide +kernel⟩, List.mem_of_getElem? (i := 15) (by decide +kernel), List.mem_of_getElem? (i := 276) (by decide +kernel), List.mem_of_getElem? (i := 277) (by decide +kernel)⟩
theorem lw_p8 : lw_okq (⟨"TallyWax$LineList", "balanceOf", "(I)I"⟩, 5) := ⟨⟨by decide +kernel, by decide +kernel⟩, List.mem_of_getElem? (i := 31) (by decide +kernel), List.mem_of_getElem? (i := 280) (by decide +kernel), List.mem_of_getElem? (i := 281) (by decide +kernel)⟩
theorem lw_p9 : lw_okq (⟨"TallyWax$LineList", "owedBetween", "(II)I"⟩, 5) := ⟨⟨by decide +kernel, by decide +kernel⟩, List.mem_of_getElem? (i := 31) (by decide +kernel), List.mem_of_getElem? (i := 292) (by decide +kernel), List.mem_of_getElem? (i := 293) (by decide +kernel)⟩
theorem lw_p10 : lw_okq (⟨"TallyWax$LineList", "sum", "()I"⟩, 5) := ⟨⟨by decide +kernel, by decide +kernel⟩, List.mem_of_getElem? (i := 31) (by decide +kernel), List.mem_of_getElem? (i := 300) (by decide +kernel), List.mem_of_getElem? (i := 301) (by decide +kernel)⟩
theorem lw_p11 : lw_okq (⟨"TallyWax", "followLines", "()V"⟩, 9) := ⟨⟨by decide +kernel, by decide +kernel⟩, List.mem_of_getElem? (i := 15) (by decide +kernel), List.mem_of_getElem? (i := 312) (by decide +kernel), List.mem_of_getElem? (i := 313) (by decide +kernel)⟩
theorem lw_p12 : lw_okq (⟨"TallyWax", "creditorBits", "(I)I"⟩, 9) := ⟨⟨by decide +kernel, by decide +kernel⟩, List.mem_of_getElem? (i := 15) (by decide +kernel), List.mem_of_getElem? (i := 316) (by decide +kernel), List.mem_of_getElem? (i := 317) (by decide +kernel)⟩
theorem lw_p13 : lw_okq (⟨"TallyWax$LineList", "creditorBits", "(I)I"⟩, 5) := ⟨⟨by decide +kernel, by decide +kernel⟩, List.mem_of_getElem? (i := 31) (by decide +kernel), List.mem_of_getElem? (i := 320) (by decide +kernel), List.mem_of_getElem? (i := 321) (by decide +kernel)⟩
theorem lw_p14 : lw_okq (⟨"TallyWax", "linesLeftOn", "(LTallyWax$Tablet;)I"⟩, 9) := ⟨⟨by decide +kernel, by decide +kernel⟩, List.mem_of_getElem? (i := 15) (by decide +kernel), List.mem_of_getElem? (i := 341) (by decide +kernel), List.mem_of_getElem? (i := 342) (by decide +kernel)⟩
theorem lw_p15 : lw_okq (⟨"TallyWax$Smoothing", "plan", "(LTallyWax$LineList;[Z)Z"⟩, 2) := ⟨⟨by decide +kernel, by decide +kernel⟩, List.mem_of_getElem? (i := 25) (by decide +kernel), List.mem_of_getElem? (i := 345) (by decide +kernel), List.mem_of_getElem? (i := 346) (by decide +kernel)⟩
def lw_privs_1 : List (MethodName × Nat) := [(⟨"java/lang/Throwable", "fillInStackTrace", "(I)Ljava/lang/Throwable;"⟩, 6), (⟨"TallyWax", "passOneYear", "()I"⟩, 9), (⟨"TallyWax", "heatAfter", "(I)I"⟩, 9), (⟨"TallyWax$Tablet", "meltsAt", "(I)Z"⟩, 3), (⟨"TallyWax", "tabletAt", "(I)LTallyWax$Tablet;"⟩, 9), (⟨"TallyWax", "linesWith", "(II)LTallyWax$LineList;"⟩, 9), (⟨"TallyWax", "isPresent", "(I)Z"⟩, 9), (⟨"TallyWax", "balanceOf", "(I)I"⟩, 9), (⟨"TallyWax$LineList", "balanceOf", "(I)I"⟩, 5), (⟨"TallyWax$LineList", "owedBetween", "(II)I"⟩, 5), (⟨"TallyWax$LineList", "sum", "()I"⟩, 5), (⟨"TallyWax", "followLines", "()V"⟩, 9), (⟨"TallyWax", "creditorBits", "(I)I"⟩, 9), (⟨"TallyWax$LineList", "creditorBits", "(I)I"⟩, 5), (⟨"TallyWax", "linesLeftOn", "(LTallyWax$Tablet;)I"⟩, 9), (⟨"TallyWax$Smoothing", "plan", "(LTallyWax$LineList;[Z)Z"⟩, 2)]
theorem lw_r1 : ∀ q ∈ lw_privs_1, lw_okq q := List.forall_mem_cons.mpr ⟨lw_p0, List.forall_mem_cons.mpr ⟨lw_p1, List.forall_mem_cons.mpr ⟨lw_p2, List.forall_mem_cons.mpr ⟨lw_p3, List.forall_mem_cons.mpr ⟨lw_p4, List.forall_mem_cons.mpr ⟨lw_p5, List.forall_mem_cons.mpr ⟨lw_p6, List.forall_mem_cons.mpr ⟨lw_p7, List.forall_mem_cons.mpr ⟨lw_p8, List.forall_mem_cons.mpr ⟨lw_p9, List.forall_mem_cons.mpr ⟨lw_p10, List.forall_mem_cons.mpr ⟨lw_p11, List.forall_mem_cons.mpr ⟨lw_p12, List.forall_mem_cons.mpr ⟨lw_p13, List.forall_mem_cons.mpr ⟨lw_p14, List.forall_mem_cons.mpr ⟨lw_p15, fun _ h => absurd h List.not_mem_nil⟩⟩⟩⟩⟩⟩⟩⟩⟩⟩⟩⟩⟩⟩⟩⟩
theorem lw_p16 : lw_okq (⟨"TallyWax$Smoothing", "poorest", "()I"⟩, 2) := ⟨⟨by decide +kernel, by decide +kernel⟩, List.mem_of_getElem? (i := 25) (by decide +kernel), List.mem_of_getElem? (i := 350) (by decide +kernel), List.mem_of_getElem? (i := 351) (by decide +kernel)⟩
theorem lw_p17 : lw_okq (⟨"TallyWax$Smoothing", "wealthiest", "()I"⟩, 2) := ⟨⟨by decide +kernel, by decide +kernel⟩, List.mem_of_getElem? (i := 25) (by decide +kernel), List.mem_of_getElem? (i := 354) (by decide +kernel), List.mem_of_getElem? (i := 355) (by decide +kernel)⟩
theorem lw_p18 : lw_okq (⟨"TallyWax$Smoothing", "planLine", "(II[Z)Z"⟩, 2) := ⟨⟨by decide +kernel, by decide +kernel⟩, List.mem_of_getElem? (i := 25) (by decide +kernel), List.mem_of_getElem? (i := 358) (by decide +kernel), List.mem_of_getElem? (i := 359) (by decide +kernel)⟩
theorem lw_p19 : lw_okq (⟨"TallyWax$LineList", "append", "(IIII)V"⟩, 5) := ⟨⟨by decide +kernel, by decide +kernel⟩, List.mem_of_getElem? (i := 31) (by decide +kernel), List.mem_of_getElem? (i := 368) (by decide +kernel), List.mem_of_getElem? (i := 369) (by decide +kernel)⟩
theorem lw_p20 : lw_okq (⟨"TallyWax$LineList", "sumWitnessedBy", "(I)I"⟩, 5) := ⟨⟨by decide +kernel, by decide +kernel⟩, List.mem_of_getElem? (i := 31) (by decide +kernel), List.mem_of_getElem? (i := 376) (by decide +kernel), List.mem_of_getElem? (i := 377) (by decide +kernel)⟩
theorem lw_p21 : lw_okq (⟨"TallyWax", "yearsLeftOf", "(LTallyWax$Tablet;)I"⟩, 9) := ⟨⟨by decide +kernel, by decide +kernel⟩, List.mem_of_getElem? (i := 15) (by decide +kernel), List.mem_of_getElem? (i := 384) (by decide +kernel), List.mem_of_getElem? (i := 385) (by decide +kernel)⟩
theorem lw_p22 : lw_okq (⟨"TallyWax$LineList", "takeOut", "(I)V"⟩, 5) := ⟨⟨by decide +kernel, by decide +kernel⟩, List.mem_of_getElem? (i := 31) (by decide +kernel), List.mem_of_getElem? (i := 500) (by decide +kernel), List.mem_of_getElem? (i := 501) (by decide +kernel)⟩
theorem lw_p23 : lw_okq (⟨"TallyWax$LineList", "become", "(LTallyWax$LineList;)V"⟩, 5) := ⟨⟨by decide +kernel, by decide +kernel⟩, List.mem_of_getElem? (i := 31) (by decide +kernel), List.mem_of_getElem? (i := 521) (by decide +kernel), List.mem_of_getElem? (i := 522) (by decide +kernel)⟩
def lw_privs_2 : List (MethodName × Nat) := [(⟨"TallyWax$Smoothing", "poorest", "()I"⟩, 2), (⟨"TallyWax$Smoothing", "wealthiest", "()I"⟩, 2), (⟨"TallyWax$Smoothing", "planLine", "(II[Z)Z"⟩, 2), (⟨"TallyWax$LineList", "append", "(IIII)V"⟩, 5), (⟨"TallyWax$LineList", "sumWitnessedBy", "(I)I"⟩, 5), (⟨"TallyWax", "yearsLeftOf", "(LTallyWax$Tablet;)I"⟩, 9), (⟨"TallyWax$LineList", "takeOut", "(I)V"⟩, 5), (⟨"TallyWax$LineList", "become", "(LTallyWax$LineList;)V"⟩, 5)]
theorem lw_r2 : ∀ q ∈ lw_privs_2, lw_okq q := List.forall_mem_cons.mpr ⟨lw_p16, List.forall_mem_cons.mpr ⟨lw_p17, List.forall_mem_cons.mpr ⟨lw_p18, List.forall_mem_cons.mpr ⟨lw_p19, List.forall_mem_cons.mpr ⟨lw_p20, List.forall_mem_cons.mpr ⟨lw_p21, List.forall_mem_cons.mpr ⟨lw_p22, List.forall_mem_cons.mpr ⟨lw_p23, fun _ h => absurd h List.not_mem_nil⟩⟩⟩⟩⟩⟩⟩⟩
def lw_privs : List (MethodName × Nat) := lw_privs_1 ++ (lw_privs_2)
def lw_tbl : List Cond := k2_sels lw_privs ++ tables_1
theorem lw_privs_ok : ∀ q ∈ lw_privs, lw_okq q := by
  show ∀ q ∈ lw_privs_1 ++ (lw_privs_2), lw_okq q
  exact List.forall_mem_append.mpr ⟨lw_r1, lw_r2⟩
/-- the streams that the claim lets the run draw from -/
abbrev lw_cs : List Choice := [Jvm.Choice.named "NaN.bits"]
theorem lw_bits : nanBits ∈ lw_cs := by first | decide | exact List.mem_cons_self | simp [lw_cs, nanBits]
/-! ===== BEGIN words of one list among another's, by their places ===== -/
theorem goodIn_r {big : List Cond} (ws : List Cond) (ps : List Nat) (hp : ws = ps.filterMap (fun i => big[i]?)) (h : ws.all goodWord = true) : GoodIn big ws := by
  intro w hw
  have h1 := List.all_eq_true.mp h w hw
  rw [hp] at hw
  obtain ⟨i, -, hi⟩ := List.mem_filterMap.mp hw
  have hm : w ∈ big := by first | exact List.mem_of_getElem? hi | exact List.getElem?_mem hi
  exact ⟨hm, good_of_word h1⟩
theorem goodIn_app {big a b : List Cond} (ha : GoodIn big a) (hb : GoodIn big b) : GoodIn big (a ++ b) := fun w h => (List.mem_append.mp h).elim (ha w) (hb w)
theorem goodIn_ca {big a b : List Cond} {c : Cond} (ha : GoodIn big (c :: a)) (hb : GoodIn big b) : GoodIn big (c :: (a ++ b)) := fun w h => (List.mem_cons.mp h).elim (fun e => ha w (List.mem_cons.mpr (Or.inl e))) (fun h => (List.mem_append.mp h).elim (fun h => ha w (List.mem_cons.mpr (Or.inr h))) (hb w))
theorem goodIn_sub {big ws : List Cond} (hm : ∀ w ∈ ws, w ∈ big) (h : ws.all goodWord = true) : GoodIn big ws := fun w hw => ⟨hm w hw, good_of_word (List.all_eq_true.mp h w hw)⟩
/-! ===== END ===== -/
/-! ===== BEGIN exceptions that leave a method, and their catching by the caller (launches without stack traces) ===== -/
section VXA
/-! The laws vx_back, vx_callV, vx_callS, vx_callSW, vx_throw0, vx_throwS follow proofs of the library, with one case more: JvmDerived/Free/Laws.lean (Back.of_free), Shelf42/LK1.lean (callV, callS), Shelf/KitTraced.lean (throwNew0V, throwNewS). -/
/-- where a method has thrown q: the class by its name, the cell, what was written, the world -/
def vx_T (XC : String → State → State → Prop) (st : State) (q : Addr) (t : State) (mc ms : Nat) (free : Addr → Prop) : Prop :=
  ∃ (E : String) (ce : Cell) (L : List Loc), XC E st t ∧ t.heap[q]? = some ce ∧ ce.vm = .none ∧ st.vm.findClass E = some ce.cls ∧ st.WarmedH t.vm ∧ st.sameButNew ({ t with vm := st.vm } : State) L mc ms ∧ ∀ z ∈ L, free z.base
def vx_Q (Qc : Array Value → State → Outcome → State → Prop) (XC : String → State → State → Prop) (mc ms : Nat) (free : Addr → Prop) : Array Value → State → Outcome → State → Prop := fun a st o t =>
  (Qc a st o t ∧ ∃ L, FrameEnd st o t L mc ms ∧ ∀ q ∈ L, free q.base) ∨ ∃ q, o = .threw q ∧ vx_T XC st q t mc ms free
/-- a callee that returns or throws -/
def vx_Met (l : Launch) (y : MethodName) (ws : List Cond) (rm : Room) (Pc : Array Value → State → Prop) (Qc : Array Value → State → Outcome → State → Prop) (XC : String → State → State → Prop) (mc ms : Nat) (free : Addr → Prop) : Prop :=
  MetFree l y (headSpec ws rm) Pc (fun _ _ _ _ _ => True) (vx_Q Qc XC mc ms free)
def vx_Post (XC : String → State → State → Prop) (mc ms : Nat) (free : Addr → Prop) : Pt → Array Value → Addr → Pt → Prop := fun A a q B =>
  ∃ (g : JFrame) (mk : MethodId) (t : State) (L : List Loc) (E : String) (ce : Cell), B.U.heap = t.heap ∧ B.U.vm = t.vm ∧ XC E (A.U.calling g mk a) t ∧ t.heap[q]? = some ce ∧ ce.vm = .none ∧ A.U.vm.findClass E = some ce.cls ∧ B.locs = A.locs ++ L ∧ (∀ z ∈ L, free z.base) ∧ B.cells = A.cells + mc ∧ B.slots = A.slots + ms
def vx_Back (l : Launch) (R : Room) (p : Program) (e : Env) (below : List Frame) (s : State) (sargs : Array Value) (y : MethodName) (len W9 : Nat)
    (Pre : Pt → Array Value → Prop) (Post : Pt → Array Value → Option Value → Pt → Prop) (PostX : Pt → Array Value → Addr → Pt → Prop) : Prop :=
  ∀ (m : MethodId) (meth : Method) (c : Code) (A : Pt) (g : JFrame) (ig : Instr) (mk : MethodId) (a : Array Value),
    Stand p l e R s m sargs below meth c A.U A.locs A.cells A.slots → g.method = m → g.locals.size = c.maxLocals → decode c.code g.pc = .ok (ig, len) →
    2 * g.monitorRoom + (g.stack.map fun v => v.category).sum ≤ W9 → A.U.methodNamed? y = some mk → Pre A a →
    (∃ (v : Option Value) (B : Pt), Stand p l e R s m sargs below meth c B.U B.locs B.cells B.slots ∧ Post A a v B ∧
      Steps p.tables e below (doInvoke e (A.U.setTop g) [] mk a).1 (B.U.setTop { g with pc := g.pc + len, stack := v.toList ++ g.stack })) ∨
    (∃ (q : Addr) (B : Pt), Stand p l e R s m sargs below meth c B.U B.locs B.cells B.slots ∧ PostX A a q B ∧
      Steps p.tables e below (doInvoke e (A.U.setTop g) [] mk a).1 ((B.U.setTop g).pushFrame (.throwing q)))
section Payer
variable {l : Launch} {R : Room} {p : Program} {e : Env} {below : List Frame} {s : State} {sargs : Array Value} {y : MethodName} {len W9 : Nat}
theorem vx_back {ws : List Cond} {rm : Room} {Pc : Array Value → State → Prop} {Qc : Array Value → State → Outcome → State → Prop} {XC : String → State → State → Prop} {mc ms : Nat} {free : Addr → Prop} {bytes : ByteArray} {maxL : Nat} {ret : Option FieldType}
    (hM : vx_Met l y ws rm Pc Qc XC mc ms free) (hblind : FrameBlind Pc) (hrc : rm.cells = mc) (hrs : rm.slots = ms)
    (hframes : rm.frames + 1 ≤ R.frames) (hlocals : W9 + (maxL + 11) + rm.locals ≤ R.locals)
    (hws : ∀ w ∈ ws, ∀ a' U, s.WarmedH U.vm → w.before a' U = true) (hcode : Cond.code y bytes maxL ret ∈ ws) (hinit : ∀ a' U, s.WarmedH U.vm → (Cond.initialized y.cls).before a' U = true) :
    vx_Back l R p e below s sargs y len W9 (PreOf R mc ms Pc) (PostOf Qc mc ms free) (vx_Post XC mc ms free) := by
  intro m meth c A g ig mk a X hg hsize hdg hW hn hp
  have h1 : (headSpec ws rm).pre.before a A.U = true := atoms_intro fun w hw => hws w hw _ _ X.warmed
  have h2 : (Cond.code y bytes maxL ret).before a A.U = true := hws _ hcode _ _ X.warmed
  have h3 : (Cond.initialized y.cls).before a A.U = true := hinit _ _ X.warmed
  have h4 : A.cells + (headSpec ws rm).room.cells ≤ R.cells := by rw [show (headSpec ws rm).room.cells = mc from hrc]; exact hp.1
  have h5 : A.slots + (headSpec ws rm).room.slots ≤ R.slots := by rw [show (headSpec ws rm).room.slots = ms from hrs]; exact hp.2.1
  have hPc : Pc a (A.U.calling g mk a) := hblind _ _ _ _ hp.2.2
  obtain ⟨U, Ls, c0, s0⟩ := A
  dsimp only [Pt.U, Pt.locs, Pt.cells, Pt.slots] at h1 h2 h3 h4 h5 X hn hPc ⊢
  obtain ⟨methY, cY, hmY, hcY, -, hlY, -, -, -, -⟩ := Cond.code_spec hn h2
  obtain ⟨kY, hkY, -⟩ := className_of_methodNamed hn
  have hinitY : kY.init = .initialized := Cond.initialized_spec (findClass_of_methodNamed hn) hkY h3
  have h : At U g.method c below := by rw [hg]; exact X.here
  have hlocals9 : W9 + (maxL + 11) + (headSpec ws rm).room.locals ≤ R.locals := hlocals
  have happ : (headSpec ws rm).appliesLoose y e.platform (U.calling g mk a) = true :=
    Spec.appliesLoose_calling (g := g) h hdg hn hkY hinitY
      (X.room_calling (g := g) (R' := (headSpec ws rm).room) hsize hmY hcY hframes (by rw [hlY]; omega) h4 h5) h1
  obtain ⟨mid, hmid⟩ := h.above
  have hfr : (U.setTop g).frames = (.java g :: mid) ++ below := by rw [State.frames_setTop' g h.top, hmid]; rfl
  obtain ⟨o, s₂, hsteps, -, hend, hq⟩ := Steps.callFree hM p X.admits X.cas X.clock (acts := []) hfr happ hPc trivial
  have hq' : vx_Q Qc XC mc ms free a (U.calling g mk a) o s₂ := hq
  rw [State.frames_setTop' g h.top] at hend
  obtain ⟨g₀, hg0⟩ := Option.isSome_iff_exists.mp h.top
  obtain ⟨r, hr⟩ := State.topJava?_eq_some.mp hg0
  have hr' : (({ U with heap := s₂.heap, slotsUsed := s₂.slotsUsed } : State).setVm s₂.vm).frames = .java g₀ :: r := hr
  rcases hq' with ⟨hqc, L, hfe, hL⟩ | ⟨q, rfl, E, ce, L, hx, hce, hcv, hcl, hW₂, hsm, hL⟩
  · obtain ⟨⟨v, rfl⟩, hW₂, e2, q2, q3, q4, q5, q6⟩ := id hfe
    have e3 : s₂ = ({ (U.calling g mk a).setFrames s₂.frames with heap := s₂.heap, slotsUsed := s₂.slotsUsed } : State).setVm s₂.vm := by
      have : s₂ = ({ s₂ with vm := (U.calling g mk a).vm } : State).setVm s₂.vm := rfl
      rw [e2] at this
      exact this
    obtain ⟨c₂, i₂, len₂, hc₂, hd₂, hf₂⟩ := hend
    have hW' : U.WarmedH s₂.vm := hW₂
    have hcc : c₂ = c := by
      have h1 : s₂.code? g.method = U.code? g.method := by
        rw [State.code?_eq, State.code?_eq, hW'.alike.method?]
      exact Option.some.inj (hc₂.symm.trans (h1.trans h.code))
    subst hcc
    have hlen : len₂ = len := by rw [hdg] at hd₂; cases hd₂; rfl
    subst hlen
    have hs₂ : s₂ = (({ U with heap := s₂.heap, slotsUsed := s₂.slotsUsed } : State).setVm s₂.vm).setTop { g with pc := g.pc + len₂, stack := v.toList ++ g.stack } := by
      refine e3.trans ?_
      rw [hf₂, State.calling_eq h.top, State.setFrames_setFrames, State.setTop_of_frames _ hr', hr]
      rfl
    have hsame : U.sameButNew ({ U with heap := s₂.heap, slotsUsed := s₂.slotsUsed } : State) L mc ms := by
      refine ⟨?_, q2, q3, q4, q5, q6⟩
      obtain ⟨t, ht, -⟩ := State.frames_cons hr
      show ({ U with heap := s₂.heap, slotsUsed := s₂.slotsUsed } : State) = { U.setFrames U.frames with heap := s₂.heap, slotsUsed := s₂.slotsUsed }
      rw [State.setFrames_self ht]
    subst hg
    refine Or.inl ⟨v, ⟨(({ U with heap := s₂.heap, slotsUsed := s₂.slotsUsed } : State).setVm s₂.vm), Ls ++ L, c0 + mc, s0 + ms⟩,
      ⟨X.admits, X.cas, X.clock, X.frames, X.room, X.hears, X.method, X.code, (X.here.setHeapUsed s₂.heap s₂.slotsUsed).setVm hW'.alike, X.tail, State.WarmedH.trans X.warmed hW', X.limits, X.bytes, X.same.trans (hsame.setVm s.vm)⟩,
      ⟨g, mk, s₂, L, rfl, rfl, hqc, rfl, hL, rfl, rfl⟩, ?_⟩
    show Steps p.tables e below _ ((({ U with heap := s₂.heap, slotsUsed := s₂.slotsUsed } : State).setVm s₂.vm).setTop { g with pc := g.pc + len₂, stack := v.toList ++ g.stack })
    rw [← hs₂]
    exact hsteps
  · obtain ⟨e2, q2, q3, q4, q5, q6⟩ := id hsm
    have e3 : s₂ = ({ (U.calling g mk a).setFrames s₂.frames with heap := s₂.heap, slotsUsed := s₂.slotsUsed } : State).setVm s₂.vm := by
      have : s₂ = ({ s₂ with vm := (U.calling g mk a).vm } : State).setVm s₂.vm := rfl
      rw [e2] at this
      exact this
    have hf₂ : s₂.frames = .throwing q :: .java g :: U.frames.tail := hend
    have hW' : U.WarmedH s₂.vm := hW₂
    have hs₂ : s₂ = ((({ U with heap := s₂.heap, slotsUsed := s₂.slotsUsed } : State).setVm s₂.vm).setTop g).pushFrame (.throwing q) := by
      refine e3.trans ?_
      rw [hf₂, State.calling_eq h.top, State.setFrames_setFrames, State.pushFrame, State.frames_setTop _ hr', State.setTop_of_frames _ hr', State.setFrames_setFrames, hr]
      rfl
    have hsame : U.sameButNew ({ U with heap := s₂.heap, slotsUsed := s₂.slotsUsed } : State) L mc ms := by
      refine ⟨?_, q2, q3, q4, q5, q6⟩
      obtain ⟨t, ht, -⟩ := State.frames_cons hr
      show ({ U with heap := s₂.heap, slotsUsed := s₂.slotsUsed } : State) = { U.setFrames U.frames with heap := s₂.heap, slotsUsed := s₂.slotsUsed }
      rw [State.setFrames_self ht]
    subst hg
    refine Or.inr ⟨q, ⟨(({ U with heap := s₂.heap, slotsUsed := s₂.slotsUsed } : State).setVm s₂.vm), Ls ++ L, c0 + mc, s0 + ms⟩,
      ⟨X.admits, X.cas, X.clock, X.frames, X.room, X.hears, X.method, X.code, (X.here.setHeapUsed s₂.heap s₂.slotsUsed).setVm hW'.alike, X.tail, State.WarmedH.trans X.warmed hW', X.limits, X.bytes, X.same.trans (hsame.setVm s.vm)⟩,
      ⟨g, mk, s₂, L, E, ce, rfl, rfl, hx, hce, hcv, hcl, rfl, hL, rfl, rfl⟩, ?_⟩
    show Steps p.tables e below _ (((({ U with heap := s₂.heap, slotsUsed := s₂.slotsUsed } : State).setVm s₂.vm).setTop g).pushFrame (.throwing q))
    rw [← hs₂]
    exact hsteps
end Payer
section Calls
variable {p : Program} {l : Launch} {e : Env} {R : Room} {s : State} {m : MethodId} {args : Array Value} {below : List Frame} {meth : Method} {c : Code} {T : State} {locs : List Loc} {cells slots : Nat}
theorem vx_callV (X : Stand p l e R s m args below meth c T locs cells slots) (hexec : p.tables.exec = Jvm.exec) {own C : String} {index : Nat} {y : MethodName} {bytes : ByteArray} {maxL : Nat} {ret : Option FieldType}
    (hown : s.vm.findClass own = some m.cls) (hlink : (Cond.methodLink own index y).before args s = true) (hinst : (Cond.instanceMethod y).before args s = true) (hsel : (Cond.selects C y y).before args s = true)
    (hcode : (Cond.code y bytes maxL ret).before args s = true) (hy : y.cls ≠ "java/lang/invoke/MethodHandle" ∧ y.cls ≠ "java/lang/invoke/VarHandle")
    {W9 : Nat} {Pre : Pt → Array Value → Prop} {Post : Pt → Array Value → Option Value → Pt → Prop} {PostX : Pt → Array Value → Addr → Pt → Prop} (hK : vx_Back l R p e below s args y 3 W9 Pre Post PostX)
    {b : Addr} {cellB : Cell} (hcell : T.heap[b]? = some cellB) (hobj : cellB.vm.isStatics = false) (hcls : s.vm.findClass C = some cellB.cls)
    {g : JFrame} (hg : g.method = m) (hsize : g.locals.size = c.maxLocals) {argsL rest : List Value} (hlen : ∀ sig, parseMethodDescriptor y.desc = some sig → argsL.length = sig.parameters.length)
    (hstack : g.stack = argsL.reverse ++ .ref b :: rest) (hW : 2 * g.monitorRoom + (rest.map fun v => v.category).sum ≤ W9) (hdg : decode c.code g.pc = .ok (.invokevirtual index, 3))
    (hpre : ∀ vm₁, s.WarmedH vm₁ → Pre ⟨T.setVm vm₁, locs, cells, slots⟩ (Value.ref b :: argsL).toArray) :
    (∃ (v : Option Value) (vm₁ : Vm) (B : Pt), s.WarmedH vm₁ ∧ Stand p l e R s m args below meth c B.U B.locs B.cells B.slots ∧ Post ⟨T.setVm vm₁, locs, cells, slots⟩ (Value.ref b :: argsL).toArray v B ∧
      ∀ target, Steps p.tables e below (B.U.setTop { g with pc := g.pc + 3, stack := v.toList ++ rest }) target → Steps p.tables e below (T.setTop g) target) ∨
    (∃ (q : Addr) (vm₁ : Vm) (B : Pt), s.WarmedH vm₁ ∧ Stand p l e R s m args below meth c B.U B.locs B.cells B.slots ∧ PostX ⟨T.setVm vm₁, locs, cells, slots⟩ (Value.ref b :: argsL).toArray q B ∧
      Steps p.tables e below (T.setTop g) ((B.U.setTop { g with stack := rest }).pushFrame (.throwing q))) := by
  obtain ⟨mk, methM, hnamed, hmethM, hstM, habM⟩ := Cond.instanceMethod_spec hinst
  obtain ⟨methM', cM, hmethM', -, -, -, -, -, -, hsigM⟩ := Cond.code_spec hnamed hcode
  cases hmethM.symm.trans hmethM'
  obtain ⟨c2, r2, m2, q1, q2, q3, q4, kP, hkP, hkPi⟩ := Cond.selects_spec hsel
  cases hcls.symm.trans q1
  cases (State.methodFound?_of_named hnamed hy).symm.trans q2
  cases hnamed.symm.trans q3
  have hselP : selectMethod e.platform s.vm cellB.cls mk = .method mk := by rw [Launch.admits_selectMethod X.admits]; exact q4
  obtain ⟨vm₁, X₁, hstep₁⟩ := X.invokevirtual hexec hown hlink hnamed hmethM hstM hkP hkPi hy (a := b) (cell := cellB) hcell
    (fun z h => by rw [h] at hobj; cases hobj) hselP hmethM habM hkP hkPi (g := g) hg (argsL := argsL) (rest := rest) (hlen _ hsigM) hstack hdg
  rcases hK m meth c ⟨T.setVm vm₁, locs, cells, slots⟩ { g with stack := rest } (.invokevirtual index) mk (Value.ref b :: argsL).toArray X₁ hg hsize hdg hW (X₁.named hnamed) (hpre vm₁ X₁.warmed) with ⟨v, B, X', hpost, hsteps⟩ | ⟨q, B, X', hpost, hsteps⟩
  · exact Or.inl ⟨v, vm₁, B, X₁.warmed, X', hpost, fun target h => hstep₁ _ fun acts => by rw [doInvoke_state]; exact hsteps.trans h⟩
  · exact Or.inr ⟨q, vm₁, B, X₁.warmed, X', hpost, hstep₁ _ fun acts => by rw [doInvoke_state]; exact hsteps⟩
theorem vx_callS (X : Stand p l e R s m args below meth c T locs cells slots) (hexec : p.tables.exec = Jvm.exec) {own : String} {index : Nat} {y : MethodName} {bytes : ByteArray} {maxL : Nat} {ret : Option FieldType}
    (hown : s.vm.findClass own = some m.cls) (hlink : (Cond.methodLink own index y).before args s = true) (hstat : (Cond.static y).before args s = true) (hinit : (Cond.initialized y.cls).before args s = true)
    (hcode : (Cond.code y bytes maxL ret).before args s = true) (hy : y.cls ≠ "java/lang/invoke/MethodHandle" ∧ y.cls ≠ "java/lang/invoke/VarHandle")
    {W9 : Nat} {Pre : Pt → Array Value → Prop} {Post : Pt → Array Value → Option Value → Pt → Prop} {PostX : Pt → Array Value → Addr → Pt → Prop} (hK : vx_Back l R p e below s args y 3 W9 Pre Post PostX)
    {g : JFrame} (hg : g.method = m) (hsize : g.locals.size = c.maxLocals) {argsL rest : List Value} (hlen : ∀ sig, parseMethodDescriptor y.desc = some sig → argsL.length = sig.parameters.length)
    (hstack : g.stack = argsL.reverse ++ rest) (hW : 2 * g.monitorRoom + (rest.map fun v => v.category).sum ≤ W9) (hdg : decode c.code g.pc = .ok (.invokestatic index, 3))
    (hpre : ∀ vm₁, s.WarmedH vm₁ → Pre ⟨T.setVm vm₁, locs, cells, slots⟩ argsL.toArray) :
    (∃ (v : Option Value) (vm₁ : Vm) (B : Pt), s.WarmedH vm₁ ∧ Stand p l e R s m args below meth c B.U B.locs B.cells B.slots ∧ Post ⟨T.setVm vm₁, locs, cells, slots⟩ argsL.toArray v B ∧
      ∀ target, Steps p.tables e below (B.U.setTop { g with pc := g.pc + 3, stack := v.toList ++ rest }) target → Steps p.tables e below (T.setTop g) target) ∨
    (∃ (q : Addr) (vm₁ : Vm) (B : Pt), s.WarmedH vm₁ ∧ Stand p l e R s m args below meth c B.U B.locs B.cells B.slots ∧ PostX ⟨T.setVm vm₁, locs, cells, slots⟩ argsL.toArray q B ∧
      Steps p.tables e below (T.setTop g) ((B.U.setTop { g with stack := rest }).pushFrame (.throwing q))) := by
  obtain ⟨mk, hnamed⟩ := Cond.code_named hcode
  obtain ⟨methM, cM, hmethM, -, -, -, -, -, -, hsigM⟩ := Cond.code_spec hnamed hcode
  have hstatic : methM.isStatic = true := Cond.static_spec hnamed hmethM hstat
  obtain ⟨kP, hkP, -⟩ := className_of_methodNamed hnamed
  have hinitP : kP.init = .initialized := Cond.initialized_spec (findClass_of_methodNamed hnamed) hkP hinit
  obtain ⟨vm₁, X₁, hstep₁⟩ := X.invokestatic hexec hown hlink hnamed hmethM hstatic hkP hinitP hy (g := g) hg (argsL := argsL) (rest := rest) (hlen _ hsigM) hstack hdg
  rcases hK m meth c ⟨T.setVm vm₁, locs, cells, slots⟩ { g with stack := rest } (.invokestatic index) mk argsL.toArray X₁ hg hsize hdg hW (X₁.named hnamed) (hpre vm₁ X₁.warmed) with ⟨v, B, X', hpost, hsteps⟩ | ⟨q, B, X', hpost, hsteps⟩
  · exact Or.inl ⟨v, vm₁, B, X₁.warmed, X', hpost, fun target h => hstep₁ _ fun acts => by rw [doInvoke_state]; exact hsteps.trans h⟩
  · exact Or.inr ⟨q, vm₁, B, X₁.warmed, X', hpost, hstep₁ _ fun acts => by rw [doInvoke_state]; exact hsteps⟩
end Calls
theorem vx_cls {s : State} {T : State} {vm₁ : Vm} {E : String} {k : ClassId} (hW : s.WarmedH vm₁) (h : (T.setVm vm₁).vm.findClass E = some k) : s.vm.findClass E = some k := by
  have h1 : vm₁.findClass E = some k := h
  rw [hW.alike.findClass] at h1
  exact h1
/-- the method's frame g, with q thrown over it -/
def vx_W (p : Program) (l : Launch) (e : Env) (R : Room) (s : State) (m : MethodId) (args : Array Value) (below : List Frame) (meth : Method) (c : Code) (H : Heap) (locs : List Loc) (cells slots : Nat) (Q : State → Prop) (g : JFrame) (q : Addr) : Prop :=
  ∀ T : State, T.heap = H → Stand p l e R s m args below meth c T locs cells slots → ∃ t, Steps p.tables e below ((T.setTop g).pushFrame (.throwing q)) t ∧ Q t
def vx_Run (p : Program) (l : Launch) (e : Env) (R : Room) (s : State) (m : MethodId) (args : Array Value) (below : List Frame) (meth : Method) (c : Code) (H : Heap) (locs : List Loc) (cells slots mc ms : Nat) (g : JFrame) (rest : List Value) (Qa : State → Outcome → State → Prop) (XC : String → State → State → Prop) (free : Addr → Prop) : Prop :=
  ∀ T : State, T.heap = H → Stand p l e R s m args below meth c T locs cells slots →
    (∃ (v : Option Value) (st₀ t T' : State) (L : List Loc), st₀.heap = H ∧ Stand p l e R s m args below meth c T' (locs ++ L) (cells + mc) (slots + ms) ∧ (∀ q ∈ L, free q.base) ∧ T'.heap = t.heap ∧ T'.vm = t.vm ∧ Qa st₀ (.returned v) t ∧
      Goes p e below T g T' { g with pc := g.pc + 3, stack := v.toList ++ rest }) ∨
    (∃ (q : Addr) (st₀ t T' : State) (L : List Loc) (E : String) (ce : Cell), st₀.heap = H ∧ Stand p l e R s m args below meth c T' (locs ++ L) (cells + mc) (slots + ms) ∧ (∀ z ∈ L, free z.base) ∧ T'.heap = t.heap ∧ T'.vm = t.vm ∧ XC E st₀ t ∧ t.heap[q]? = some ce ∧ ce.vm = .none ∧ s.vm.findClass E = some ce.cls ∧
      Steps p.tables e below (T.setTop g) ((T'.setTop { g with stack := rest }).pushFrame (.throwing q)))
def vx_X {S : Type} (px : S → Prop) (B : String → S → State → Prop) (A : Nat → Prop) : String → State → State → Prop := fun E st t => ∃ u : S, px u ∧ B E u t ∧ va_F A st t
section Runs
variable {p : Program} {l : Launch} {e : Env} {R : Room} {s : State} {m : MethodId} {args : Array Value} {below : List Frame} {meth : Method} {c : Code} {H : Heap} {locs : List Loc} {cells slots : Nat}
variable {y : MethodName} {bytes cc : ByteArray} {maxL nL mc ms n index : Nat} {ret : Option FieldType} {ws : List Cond} {rm : Room} {Pc : Array Value → State → Prop} {Qc : Array Value → State → Outcome → State → Prop} {XC : String → State → State → Prop} {free : Addr → Prop} {Ts : List Cond} {own C : String} {b : Addr} {As rest : List Value} {g : JFrame}
theorem vx_callBack (cb : CallB R s args own index y bytes maxL ret ws rm mc ms n) (hM : vx_Met l y ws rm Pc Qc XC mc ms free) (hbl : FrameBlind Pc) : vx_Back l R p e below s args y 3 8 (PreOf R mc ms Pc) (PostOf Qc mc ms free) (vx_Post XC mc ms free) := by
  obtain ⟨hrc, hrs, hfr, hlo, hws, hcw, -, hini, -⟩ := cb
  exact vx_back (bytes := bytes) (maxL := maxL) (ret := ret) hM hbl hrc hrs hfr hlo hws hcw (fun a' U hW => word_at hW (Or.inl (by first | rfl | simp [Cond.onTables, Cond.keeps, Cond.steady])) hini)
theorem vx_runV (S : CallFix p m c cc nL s args Ts own) (hM : vx_Met l y ws rm Pc Qc XC mc ms free) (cw : CallW R s args own C index y bytes maxL ret ws rm mc ms n) (hp : PreV s H C b Pc As)
    (hg : g.method = m) (hn : As.length = n) (hsize : g.locals.size = nL) (hstack : g.stack = As.reverse ++ .ref b :: rest) (hW : 2 * g.monitorRoom + (rest.map fun v => v.category).sum ≤ 8) (hdg : decode cc g.pc = .ok (.invokevirtual index, 3)) (hf : cells + mc ≤ R.cells ∧ slots + ms ≤ R.slots) :
    vx_Run p l e R s m args below meth c H locs cells slots mc ms g rest (Qc (Value.ref b :: As).toArray) XC free := by
  have hK : vx_Back l R p e below s args y 3 8 (PreOf R mc ms Pc) (PostOf Qc mc ms free) (vx_Post XC mc ms free) := vx_callBack cw.1 hM hp.1
  obtain ⟨⟨-, -, -, -, -, -, hcode, -, hy, hlen, hl⟩, hin, hse⟩ := cw
  obtain ⟨hx, hb, hml, ho, -⟩ := S
  obtain ⟨-, ⟨cellB, hcB, hoB, hclB⟩, hPc⟩ := hp
  intro T hT X
  rcases vx_callV X hx (C := C) (bytes := bytes) (maxL := maxL) (ret := ret) ho hl hin hse hcode hy hK (by rw [hT]; exact hcB) hoB hclB hg (hsize.trans hml.symm) (argsL := As) (rest := rest) (fun sig h => hn.trans (hlen sig h)) hstack hW (by rw [hb]; exact hdg)
    (fun vm₁ hW₁ => ⟨hf.1, hf.2, hPc (T.setVm vm₁) hT hW₁⟩) with ⟨v, vm₁, ⟨U', l2, c2, s2⟩, hW₁, X', ⟨g', mk, t, L, e1, e2, hq, h1, hL, h2, h3⟩, st⟩ | ⟨q, vm₁, ⟨U', l2, c2, s2⟩, hW₁, X', ⟨g', mk, t, L, E, ce, e1, e2, hq, hce, hcv, hcl, h1, hL, h2, h3⟩, st⟩
  · dsimp only [Pt.U, Pt.locs, Pt.cells, Pt.slots] at X' e1 e2 h1 h2 h3 st
    subst h1; subst h2; subst h3
    exact Or.inl ⟨v, (T.setVm vm₁).calling g' mk (Value.ref b :: As).toArray, t, U', L, hT, X', hL, e1, e2, hq, st⟩
  · dsimp only [Pt.U, Pt.locs, Pt.cells, Pt.slots] at X' e1 e2 h1 h2 h3 st hcl
    subst h1; subst h2; subst h3
    exact Or.inr ⟨q, (T.setVm vm₁).calling g' mk (Value.ref b :: As).toArray, t, U', L, E, ce, hT, X', hL, e1, e2, hq, hce, hcv, vx_cls hW₁ hcl, st⟩
theorem vx_runS (S : CallFix p m c cc nL s args Ts own) (hM : vx_Met l y ws rm Pc Qc XC mc ms free) (cw : CallB R s args own index y bytes maxL ret ws rm mc ms n ∧ (Cond.static y).before args s = true) (hp : PreS s H Pc As)
    (hg : g.method = m) (hn : As.length = n) (hsize : g.locals.size = nL) (hstack : g.stack = As.reverse ++ rest) (hW : 2 * g.monitorRoom + (rest.map fun v => v.category).sum ≤ 8) (hdg : decode cc g.pc = .ok (.invokestatic index, 3)) (hf : cells + mc ≤ R.cells ∧ slots + ms ≤ R.slots) :
    vx_Run p l e R s m args below meth c H locs cells slots mc ms g rest (Qc As.toArray) XC free := by
  have hK : vx_Back l R p e below s args y 3 8 (PreOf R mc ms Pc) (PostOf Qc mc ms free) (vx_Post XC mc ms free) := vx_callBack cw.1 hM hp.1
  obtain ⟨⟨-, -, -, -, -, -, hcode, hini, hy, hlen, hl⟩, hstt⟩ := cw
  obtain ⟨hx, hb, hml, ho, -⟩ := S
  intro T hT X
  rcases vx_callS X hx (bytes := bytes) (maxL := maxL) (ret := ret) ho hl hstt hini hcode hy hK hg (hsize.trans hml.symm) (argsL := As) (rest := rest) (fun sig h => hn.trans (hlen sig h)) hstack hW (by rw [hb]; exact hdg)
    (fun vm₁ hW₁ => ⟨hf.1, hf.2, hp.2 (T.setVm vm₁) hT hW₁⟩) with ⟨v, vm₁, ⟨U', l2, c2, s2⟩, hW₁, X', ⟨g', mk, t, L, e1, e2, hq, h1, hL, h2, h3⟩, st⟩ | ⟨q, vm₁, ⟨U', l2, c2, s2⟩, hW₁, X', ⟨g', mk, t, L, E, ce, e1, e2, hq, hce, hcv, hcl, h1, hL, h2, h3⟩, st⟩
  · dsimp only [Pt.U, Pt.locs, Pt.cells, Pt.slots] at X' e1 e2 h1 h2 h3 st
    subst h1; subst h2; subst h3
    exact Or.inl ⟨v, (T.setVm vm₁).calling g' mk As.toArray, t, U', L, hT, X', hL, e1, e2, hq, st⟩
  · dsimp only [Pt.U, Pt.locs, Pt.cells, Pt.slots] at X' e1 e2 h1 h2 h3 st hcl
    subst h1; subst h2; subst h3
    exact Or.inr ⟨q, (T.setVm vm₁).calling g' mk As.toArray, t, U', L, E, ce, hT, X', hL, e1, e2, hq, hce, hcv, vx_cls hW₁ hcl, st⟩
end Runs
section Rows
variable {p : Program} {l : Launch} {e : Env} {R : Room} {s : State} {m : MethodId} {args : Array Value} {below : List Frame} {meth : Method} {c : Code} {H : Heap} {locs : List Loc} {cells slots : Nat} {Q : State → Prop}
variable {mc ms : Nat} {free : Addr → Prop} {A0 A1 : Nat → Prop} {H0 : Heap} {a : Array Value} {pc : Nat} {ls : Array Slot} {st0 rest : List Value}
theorem vx_keep {st₀ t T' : State} {L : List Loc} (h0 : st₀.heap = H) (e1 : T'.heap = t.heap) (hS : va_S A0 H0 H locs) (hA : ∀ q, q < H.size → A1 q → A0 q) (hf : ∀ q, free q → A0 q) (hL : ∀ q ∈ L, free q.base) (hF : va_F A1 st₀ t) :
    H.size ≤ T'.heap.size ∧ (∀ q : Nat, q < H.size → ¬ A1 q → T'.heap[q]? = H[q]?) ∧ va_S A0 H0 T'.heap (locs ++ L) := by
  obtain ⟨hz, hk⟩ := hF
  rw [h0] at hz hk
  exact ⟨by rw [e1]; exact hz, fun q h1 h2 => by rw [e1]; exact hk q h1 h2,
    ⟨Nat.le_trans hS.1 (by rw [e1]; exact hz), fun q h1 h2 => by rw [e1, hk q (Nat.lt_of_lt_of_le h1 hS.1) (fun z => h2 (hA q (Nat.lt_of_lt_of_le h1 hS.1) z))]; exact hS.2.1 q h1 h2, fun q hq => by
      rcases List.mem_append.mp hq with h | h
      · exact hS.2.2 q h
      · exact hf _ (hL q h)⟩⟩
theorem vx_calli {S SX : Type} {post : Int32 → S → Prop} {px : SX → Prop} {B : S → State → Prop} {BX : String → SX → State → Prop} {AX : Nat → Prop} (hr : vx_Run p l e R s m args below meth c H locs cells slots mc ms (F0 m pc ls st0) rest (va_Qi post B A1 a) (vx_X px BX AX) free) (hS : va_S A0 H0 H locs) (hA : ∀ q, q < H.size → A1 q → A0 q) (hf : ∀ q, free q → A0 q) (hAX : ∀ q, q < H.size → AX q → A0 q)
    (kx : ∀ (E : String) (ce : Cell) (q9 : Addr) (u : SX) (t : State) (H1 : Heap) (locs1 : List Loc), t.heap = H1 → s.vm.Alike t.vm → px u → BX E u t → H.size ≤ H1.size → (∀ q : Nat, q < H.size → ¬ AX q → H1[q]? = H[q]?) → va_S A0 H0 H1 locs1 → H1[q9]? = some ce → ce.vm = .none → s.vm.findClass E = some ce.cls → vx_W p l e R s m args below meth c H1 locs1 (cells + mc) (slots + ms) Q (F0 m pc ls rest) q9)
    (kk : ∀ (r : Int32) (u : S) (t : State) (H1 : Heap) (locs1 : List Loc), t.heap = H1 → s.vm.Alike t.vm → post r u → B u t → H.size ≤ H1.size → (∀ q : Nat, q < H.size → ¬ A1 q → H1[q]? = H[q]?) → va_S A0 H0 H1 locs1 → W p l e R s m args below meth c H1 locs1 (cells + mc) (slots + ms) Q (F0 m (pc + 3) ls (.int r :: rest))) : W p l e R s m args below meth c H locs cells slots Q (F0 m pc ls st0) := by
  intro T hT X
  rcases hr T hT X with ⟨v, st₀, t, T', L, h0, X', hL, e1, e2, ⟨⟨r, u, hv, hp, hb⟩, hF⟩, st⟩ | ⟨q, st₀, t, T', L, E, ce, h0, X', hL, e1, e2, ⟨u, hp, hb, hF⟩, hce, hcv, hcl, st⟩
  · cases hv
    obtain ⟨k1, k2, k3⟩ := vx_keep h0 e1 hS hA hf hL hF
    obtain ⟨t2, a1, b1⟩ := kk r u t T'.heap (locs ++ L) e1.symm (by rw [← e2]; exact X'.warmed.alike) hp hb k1 k2 k3 T' rfl X'
    exact ⟨t2, st t2 a1, b1⟩
  · obtain ⟨k1, k2, k3⟩ := vx_keep h0 e1 hS hAX hf hL hF
    obtain ⟨t2, a1, b1⟩ := kx E ce q u t T'.heap (locs ++ L) e1.symm (by rw [← e2]; exact X'.warmed.alike) hp hb k1 k2 k3 (by rw [e1]; exact hce) hcv hcl T' rfl X'
    exact ⟨t2, st.trans a1, b1⟩
theorem vx_calll {S SX : Type} {post : Int64 → S → Prop} {px : SX → Prop} {B : S → State → Prop} {BX : String → SX → State → Prop} {AX : Nat → Prop} (hr : vx_Run p l e R s m args below meth c H locs cells slots mc ms (F0 m pc ls st0) rest (va_Ql post B A1 a) (vx_X px BX AX) free) (hS : va_S A0 H0 H locs) (hA : ∀ q, q < H.size → A1 q → A0 q) (hf : ∀ q, free q → A0 q) (hAX : ∀ q, q < H.size → AX q → A0 q)
    (kx : ∀ (E : String) (ce : Cell) (q9 : Addr) (u : SX) (t : State) (H1 : Heap) (locs1 : List Loc), t.heap = H1 → s.vm.Alike t.vm → px u → BX E u t → H.size ≤ H1.size → (∀ q : Nat, q < H.size → ¬ AX q → H1[q]? = H[q]?) → va_S A0 H0 H1 locs1 → H1[q9]? = some ce → ce.vm = .none → s.vm.findClass E = some ce.cls → vx_W p l e R s m args below meth c H1 locs1 (cells + mc) (slots + ms) Q (F0 m pc ls rest) q9)
    (kk : ∀ (r : Int64) (u : S) (t : State) (H1 : Heap) (locs1 : List Loc), t.heap = H1 → s.vm.Alike t.vm → post r u → B u t → H.size ≤ H1.size → (∀ q : Nat, q < H.size → ¬ A1 q → H1[q]? = H[q]?) → va_S A0 H0 H1 locs1 → W p l e R s m args below meth c H1 locs1 (cells + mc) (slots + ms) Q (F0 m (pc + 3) ls (.long r :: rest))) : W p l e R s m args below meth c H locs cells slots Q (F0 m pc ls st0) := by
  intro T hT X
  rcases hr T hT X with ⟨v, st₀, t, T', L, h0, X', hL, e1, e2, ⟨⟨r, u, hv, hp, hb⟩, hF⟩, st⟩ | ⟨q, st₀, t, T', L, E, ce, h0, X', hL, e1, e2, ⟨u, hp, hb, hF⟩, hce, hcv, hcl, st⟩
  · cases hv
    obtain ⟨k1, k2, k3⟩ := vx_keep h0 e1 hS hA hf hL hF
    obtain ⟨t2, a1, b1⟩ := kk r u t T'.heap (locs ++ L) e1.symm (by rw [← e2]; exact X'.warmed.alike) hp hb k1 k2 k3 T' rfl X'
    exact ⟨t2, st t2 a1, b1⟩
  · obtain ⟨k1, k2, k3⟩ := vx_keep h0 e1 hS hAX hf hL hF
    obtain ⟨t2, a1, b1⟩ := kx E ce q u t T'.heap (locs ++ L) e1.symm (by rw [← e2]; exact X'.warmed.alike) hp hb k1 k2 k3 (by rw [e1]; exact hce) hcv hcl T' rfl X'
    exact ⟨t2, st.trans a1, b1⟩
theorem vx_callf {S SX : Type} {post : UInt32 → S → Prop} {px : SX → Prop} {B : S → State → Prop} {BX : String → SX → State → Prop} {AX : Nat → Prop} (hr : vx_Run p l e R s m args below meth c H locs cells slots mc ms (F0 m pc ls st0) rest (va_Qf post B A1 a) (vx_X px BX AX) free) (hS : va_S A0 H0 H locs) (hA : ∀ q, q < H.size → A1 q → A0 q) (hf : ∀ q, free q → A0 q) (hAX : ∀ q, q < H.size → AX q → A0 q)
    (kx : ∀ (E : String) (ce : Cell) (q9 : Addr) (u : SX) (t : State) (H1 : Heap) (locs1 : List Loc), t.heap = H1 → s.vm.Alike t.vm → px u → BX E u t → H.size ≤ H1.size → (∀ q : Nat, q < H.size → ¬ AX q → H1[q]? = H[q]?) → va_S A0 H0 H1 locs1 → H1[q9]? = some ce → ce.vm = .none → s.vm.findClass E = some ce.cls → vx_W p l e R s m args below meth c H1 locs1 (cells + mc) (slots + ms) Q (F0 m pc ls rest) q9)
    (kk : ∀ (r : UInt32) (u : S) (t : State) (H1 : Heap) (locs1 : List Loc), t.heap = H1 → s.vm.Alike t.vm → post r u → B u t → H.size ≤ H1.size → (∀ q : Nat, q < H.size → ¬ A1 q → H1[q]? = H[q]?) → va_S A0 H0 H1 locs1 → W p l e R s m args below meth c H1 locs1 (cells + mc) (slots + ms) Q (F0 m (pc + 3) ls (.float r :: rest))) : W p l e R s m args below meth c H locs cells slots Q (F0 m pc ls st0) := by
  intro T hT X
  rcases hr T hT X with ⟨v, st₀, t, T', L, h0, X', hL, e1, e2, ⟨⟨r, u, hv, hp, hb⟩, hF⟩, st⟩ | ⟨q, st₀, t, T', L, E, ce, h0, X', hL, e1, e2, ⟨u, hp, hb, hF⟩, hce, hcv, hcl, st⟩
  · cases hv
    obtain ⟨k1, k2, k3⟩ := vx_keep h0 e1 hS hA hf hL hF
    obtain ⟨t2, a1, b1⟩ := kk r u t T'.heap (locs ++ L) e1.symm (by rw [← e2]; exact X'.warmed.alike) hp hb k1 k2 k3 T' rfl X'
    exact ⟨t2, st t2 a1, b1⟩
  · obtain ⟨k1, k2, k3⟩ := vx_keep h0 e1 hS hAX hf hL hF
    obtain ⟨t2, a1, b1⟩ := kx E ce q u t T'.heap (locs ++ L) e1.symm (by rw [← e2]; exact X'.warmed.alike) hp hb k1 k2 k3 (by rw [e1]; exact hce) hcv hcl T' rfl X'
    exact ⟨t2, st.trans a1, b1⟩
theorem vx_calld {S SX : Type} {post : UInt64 → S → Prop} {px : SX → Prop} {B : S → State → Prop} {BX : String → SX → State → Prop} {AX : Nat → Prop} (hr : vx_Run p l e R s m args below meth c H locs cells slots mc ms (F0 m pc ls st0) rest (va_Qd post B A1 a) (vx_X px BX AX) free) (hS : va_S A0 H0 H locs) (hA : ∀ q, q < H.size → A1 q → A0 q) (hf : ∀ q, free q → A0 q) (hAX : ∀ q, q < H.size → AX q → A0 q)
    (kx : ∀ (E : String) (ce : Cell) (q9 : Addr) (u : SX) (t : State) (H1 : Heap) (locs1 : List Loc), t.heap = H1 → s.vm.Alike t.vm → px u → BX E u t → H.size ≤ H1.size → (∀ q : Nat, q < H.size → ¬ AX q → H1[q]? = H[q]?) → va_S A0 H0 H1 locs1 → H1[q9]? = some ce → ce.vm = .none → s.vm.findClass E = some ce.cls → vx_W p l e R s m args below meth c H1 locs1 (cells + mc) (slots + ms) Q (F0 m pc ls rest) q9)
    (kk : ∀ (r : UInt64) (u : S) (t : State) (H1 : Heap) (locs1 : List Loc), t.heap = H1 → s.vm.Alike t.vm → post r u → B u t → H.size ≤ H1.size → (∀ q : Nat, q < H.size → ¬ A1 q → H1[q]? = H[q]?) → va_S A0 H0 H1 locs1 → W p l e R s m args below meth c H1 locs1 (cells + mc) (slots + ms) Q (F0 m (pc + 3) ls (.double r :: rest))) : W p l e R s m args below meth c H locs cells slots Q (F0 m pc ls st0) := by
  intro T hT X
  rcases hr T hT X with ⟨v, st₀, t, T', L, h0, X', hL, e1, e2, ⟨⟨r, u, hv, hp, hb⟩, hF⟩, st⟩ | ⟨q, st₀, t, T', L, E, ce, h0, X', hL, e1, e2, ⟨u, hp, hb, hF⟩, hce, hcv, hcl, st⟩
  · cases hv
    obtain ⟨k1, k2, k3⟩ := vx_keep h0 e1 hS hA hf hL hF
    obtain ⟨t2, a1, b1⟩ := kk r u t T'.heap (locs ++ L) e1.symm (by rw [← e2]; exact X'.warmed.alike) hp hb k1 k2 k3 T' rfl X'
    exact ⟨t2, st t2 a1, b1⟩
  · obtain ⟨k1, k2, k3⟩ := vx_keep h0 e1 hS hAX hf hL hF
    obtain ⟨t2, a1, b1⟩ := kx E ce q u t T'.heap (locs ++ L) e1.symm (by rw [← e2]; exact X'.warmed.alike) hp hb k1 k2 k3 (by rw [e1]; exact hce) hcv hcl T' rfl X'
    exact ⟨t2, st.trans a1, b1⟩
theorem vx_callv {S SX : Type} {post : S → Prop} {px : SX → Prop} {B : S → State → Prop} {BX : String → SX → State → Prop} {AX : Nat → Prop} (hr : vx_Run p l e R s m args below meth c H locs cells slots mc ms (F0 m pc ls st0) rest (va_Qv post B A1 a) (vx_X px BX AX) free) (hS : va_S A0 H0 H locs) (hA : ∀ q, q < H.size → A1 q → A0 q) (hf : ∀ q, free q → A0 q) (hAX : ∀ q, q < H.size → AX q → A0 q)
    (kx : ∀ (E : String) (ce : Cell) (q9 : Addr) (u : SX) (t : State) (H1 : Heap) (locs1 : List Loc), t.heap = H1 → s.vm.Alike t.vm → px u → BX E u t → H.size ≤ H1.size → (∀ q : Nat, q < H.size → ¬ AX q → H1[q]? = H[q]?) → va_S A0 H0 H1 locs1 → H1[q9]? = some ce → ce.vm = .none → s.vm.findClass E = some ce.cls → vx_W p l e R s m args below meth c H1 locs1 (cells + mc) (slots + ms) Q (F0 m pc ls rest) q9)
    (kk : ∀ (u : S) (t : State) (H1 : Heap) (locs1 : List Loc), t.heap = H1 → s.vm.Alike t.vm → post u → B u t → H.size ≤ H1.size → (∀ q : Nat, q < H.size → ¬ A1 q → H1[q]? = H[q]?) → va_S A0 H0 H1 locs1 → W p l e R s m args below meth c H1 locs1 (cells + mc) (slots + ms) Q (F0 m (pc + 3) ls (rest))) : W p l e R s m args below meth c H locs cells slots Q (F0 m pc ls st0) := by
  intro T hT X
  rcases hr T hT X with ⟨v, st₀, t, T', L, h0, X', hL, e1, e2, ⟨⟨u, hv, hp, hb⟩, hF⟩, st⟩ | ⟨q, st₀, t, T', L, E, ce, h0, X', hL, e1, e2, ⟨u, hp, hb, hF⟩, hce, hcv, hcl, st⟩
  · cases hv
    obtain ⟨k1, k2, k3⟩ := vx_keep h0 e1 hS hA hf hL hF
    obtain ⟨t2, a1, b1⟩ := kk u t T'.heap (locs ++ L) e1.symm (by rw [← e2]; exact X'.warmed.alike) hp hb k1 k2 k3 T' rfl X'
    exact ⟨t2, st t2 a1, b1⟩
  · obtain ⟨k1, k2, k3⟩ := vx_keep h0 e1 hS hAX hf hL hF
    obtain ⟨t2, a1, b1⟩ := kx E ce q u t T'.heap (locs ++ L) e1.symm (by rw [← e2]; exact X'.warmed.alike) hp hb k1 k2 k3 (by rw [e1]; exact hce) hcv hcl T' rfl X'
    exact ⟨t2, st.trans a1, b1⟩
/-- caught by the row x of this method's table; the rows ahead don't take it -/
theorem vx_catch {own name : String} {E : String} {ce : Cell} {q : Addr} (hown : s.vm.findClass own = some m.cls) (pre : List ExceptionTableEntry) (x : ExceptionTableEntry) (suf : List ExceptionTableEntry) (hsplit : c.exceptionTable.toList = pre ++ x :: suf)
    (hpass : ∀ z ∈ pre, covers z pc = false ∨ (z.catchType ≠ 0 ∧ ∃ nm : String, (Cond.classLink own z.catchType nm).before args s = true ∧ va_Nc E nm s)) (hx : covers x pc = true) (h0 : x.catchType ≠ 0)
    (hlink : (Cond.classLink own x.catchType name).before args s = true) (hcast : (Cond.castable E name).before args s = true) (hcell : H[q]? = some ce) (hv : ce.vm = .none) (hcl : s.vm.findClass E = some ce.cls)
    (kk : W p l e R s m args below meth c H locs cells slots Q (F0 m x.handlerPc ls [.ref q])) : vx_W p l e R s m args below meth c H locs cells slots Q (F0 m pc ls rest) q := by
  intro T hT X
  have hpl : e.platform.magicAccessors = ({} : Platform).magicAccessors := by rw [X.admits.platform]
  obtain ⟨c3, c4, hc3, hc4, hasg⟩ := Cond.castable_spec hcast
  cases Option.some.inj (hc3.symm.trans hcl)
  obtain ⟨c5, hc5, hcl5⟩ := Cond.classLink_spec hown hlink e.platform hpl
  cases Option.some.inj (hc4.symm.trans hc5)
  obtain ⟨vm', X', st⟩ := X.thenCaughtThrough q (g := F0 m pc ls rest) rfl (Steps.refl _) (by rw [hT]; exact hcell) (by rw [hv]; rfl) (by obtain ⟨k9, h9, -⟩ := Vm.findClass_spec hcl; exact ⟨k9, h9⟩) pre x suf hsplit
    (fun z hz => by
      rcases hpass z hz with h | ⟨hz0, nm, hl1, hn1⟩
      · exact Or.inl h
      · obtain ⟨c6, hc6, hcl6⟩ := Cond.classLink_spec hown hl1 e.platform hpl
        obtain ⟨a8, b8, h1, h2, h3⟩ := hn1
        cases Option.some.inj (h1.symm.trans hcl)
        cases Option.some.inj (h2.symm.trans hc6)
        exact Or.inr ⟨hz0, _, hcl6, h3⟩) hx (Or.inr ⟨h0, c4, hcl5, hasg⟩)
  obtain ⟨t, a1, b1⟩ := kk (T.setVm vm') hT X'
  exact ⟨t, st.trans a1, b1⟩
end Rows
section Ends
variable {p : Program} {l : Launch} {e : Env} {R : Room} {s : State} {m : MethodId} {args : Array Value} {below : List Frame} {meth : Method} {c : Code} {H : Heap} {locs : List Loc} {cells slots : Nat} {Q : State → Prop}
variable {mc ms : Nat} {free : Addr → Prop} {A0 A1 : Nat → Prop} {H0 : Heap} {a : Array Value} {ls : Array Slot} {st0 rest : List Value}
variable {Qc : Array Value → State → Outcome → State → Prop} {XC : String → State → State → Prop}
/-- what a body that may throw owes at its end -/
def vx_MQ (below : List Frame) (Qc : Array Value → State → Outcome → State → Prop) (XC : String → State → State → Prop) (a : Array Value) (s : State) (mc ms : Nat) (free : Addr → Prop) : State → Prop := fun t =>
  ∃ o, t.status = .running ∧ Ended t below o ∧ vx_Q Qc XC mc ms free a s o t
theorem vx_ret {g : JFrame} {mc ms : Nat} (k : W p l e R s m args below meth c H locs cells slots (MQ below Qc args s mc ms free) g) : W p l e R s m args below meth c H locs cells slots (vx_MQ below Qc XC args s mc ms free) g := by
  intro T hT X
  obtain ⟨t, a1, o, b1, b2, b3, b4⟩ := k T hT X
  exact ⟨t, a1, o, b1, b2, Or.inl ⟨b3, b4⟩⟩
/-- not caught here: it goes on to the caller -/
theorem vx_widen {g : JFrame} {q : Addr} {k n : Nat} (h1 : cells ≤ k) (h2 : slots ≤ n) (kk : vx_W p l e R s m args below meth c H locs k n Q g q) : vx_W p l e R s m args below meth c H locs cells slots Q g q := fun T hT X => kk T hT (stand_widen X h1 h2)
theorem vx_out {pc : Nat} {E : String} {ce : Cell} {q : Addr} {mc ms : Nat} (hout : ∀ x ∈ c.exceptionTable.toList, covers x pc = false) (hlocks : meth.locks = false) (hcell : H[q]? = some ce) (hv : ce.vm = .none) (hcl : s.vm.findClass E = some ce.cls)
    (hx : ∀ t : State, t.heap = H → s.vm.Alike t.vm → XC E s t) (hf : ∀ z ∈ locs, free z.base) (hc : cells ≤ mc) (hs : slots ≤ ms) :
    vx_W p l e R s m args below meth c H locs cells slots (vx_MQ below Qc XC args s mc ms free) (F0 m pc ls rest) q := by
  intro T hT X
  obtain ⟨st1, hrun, hend, hW, hsm⟩ := X.leaveThrown q (g := F0 m pc ls rest) rfl rfl rfl hout hlocks
  have hcell9 : (T.setFrames (.throwing q :: below)).heap[q]? = some ce := by
    show T.heap[q]? = some ce
    rw [hT]; exact hcell
  exact ⟨_, st1, .threw q, hrun, hend, Or.inr ⟨q, rfl, E, ce, locs, hx _ hT hW.alike, hcell9, hv, hcl, hW, hsm.mono hc hs, hf⟩⟩
theorem vx_frame {U : State} {k n : Nat} (h : s.sameButNew ({ U with vm := s.vm } : State) locs k n) : s.heap.size ≤ U.heap.size ∧ ∀ q : Nat, q < s.heap.size → (∀ z ∈ locs, z.base ≠ q) → U.heap[q]? = s.heap[q]? := by
  obtain ⟨-, h2, -, -, -, h6⟩ := h
  refine ⟨h2, fun q hq hz => ?_⟩
  obtain ⟨c9, e1, e2, e3, e4⟩ := h6 q _ (Array.getElem?_eq_getElem hq)
  have hs : c9.slots = (s.heap[q]).slots := Array.ext_getElem? fun i => e4 i fun hm => hz _ hm rfl
  have h9 : c9 = s.heap[q] := by
    rw [hs] at e2
    exact e2
  have e5 : U.heap[q]? = some c9 := e1
  rw [e5, h9, Array.getElem?_eq_getElem hq]
/-- the words of a throw but the four that speak of the heap -/
def vx_no (w : Cond) : Bool := decide (w ≠ .isRef (.static Bundle.tN "UNASSIGNED_STACK" Bundle.steD)) && decide (w ≠ .isRef (.static Bundle.tN "SUPPRESSED_SENTINEL" Bundle.listD)) && decide (w ≠ .laysStatic Bundle.tN "UNASSIGNED_STACK" Bundle.steD) && decide (w ≠ .laysStatic Bundle.tN "SUPPRESSED_SENTINEL" Bundle.listD)
def vx_at0 (own : String) (ic : Nat) (X : String) (names : List String) : List Cond := (Bundle.ownAtoms0 own ic X names).filter vx_no
def vx_atS (own : String) (ic : Nat) (X : String) (names : List String) : List Cond := (Bundle.ownAtoms own ic X names).filter vx_no
/-- a word that the tables alone decide, or a good one -/
def vx_ot (w : Cond) : Bool := w.onTables || goodWord w
theorem vx_ot_at {args a' : Array Value} {s U : State} {w : Cond} (hW : s.WarmedH U.vm) (hvm : s.vm = U.vm) (hg : vx_ot w = true) (h : w.before args s = true) : w.before a' U = true := by
  simp only [vx_ot, Bool.or_eq_true] at hg
  rcases hg with hg | hg
  · exact va_tabs hg hvm h
  · exact word_at hW (good_of_word hg) h
/-- a list's words: the good ones out of the method's own list, the others by premises of their own -/
theorem vx_hat {args : Array Value} {s : State} {L B : List Cond} (h1 : ∀ w ∈ L.filter goodWord, w.before args s = true) (h2 : ∀ w ∈ L.filter (fun w => !goodWord w), w ∈ B) (h3 : ∀ w ∈ B, w.before args s = true) : ∀ w ∈ L, w.before args s = true := by
  intro w hw
  by_cases g : goodWord w = true
  · exact h1 w (List.mem_filter.mpr ⟨hw, g⟩)
  · refine h3 w (h2 w (List.mem_filter.mpr ⟨hw, ?_⟩))
    show (!goodWord w) = true
    cases hgw : goodWord w
    · rfl
    · exact absurd hgw g
theorem vx_c {args : Array Value} {s : State} {w : Cond} {B : List Cond} (h : w.before args s = true) (t : ∀ w ∈ B, w.before args s = true) : ∀ w' ∈ w :: B, w'.before args s = true := fun w' h' => (List.mem_cons.mp h').elim (fun e => by rw [e]; exact h) (t w')
theorem vx_n {args : Array Value} {s : State} : ∀ w ∈ ([] : List Cond), w.before args s = true := fun _ h => nomatch h
theorem vx_own {args : Array Value} {s : State} {L : List Cond} (h1 : ∀ w ∈ L.filter vx_no, w.before args s = true)
    (hU : (Cond.isRef (.static Bundle.tN "UNASSIGNED_STACK" Bundle.steD)).before args s = true) (hN : (Cond.isRef (.static Bundle.tN "SUPPRESSED_SENTINEL" Bundle.listD)).before args s = true)
    (lU : (Cond.laysStatic Bundle.tN "UNASSIGNED_STACK" Bundle.steD).before args s = true) (lN : (Cond.laysStatic Bundle.tN "SUPPRESSED_SENTINEL" Bundle.listD).before args s = true) : ∀ w ∈ L, w.before args s = true := by
  intro w hw
  by_cases e1 : w = .isRef (.static Bundle.tN "UNASSIGNED_STACK" Bundle.steD)
  · rw [e1]; exact hU
  · by_cases e2 : w = .isRef (.static Bundle.tN "SUPPRESSED_SENTINEL" Bundle.listD)
    · rw [e2]; exact hN
    · by_cases e3 : w = .laysStatic Bundle.tN "UNASSIGNED_STACK" Bundle.steD
      · rw [e3]; exact lU
      · by_cases e4 : w = .laysStatic Bundle.tN "SUPPRESSED_SENTINEL" Bundle.listD
        · rw [e4]; exact lN
        · exact h1 w (List.mem_filter.mpr ⟨hw, by unfold vx_no; rw [decide_eq_true e1, decide_eq_true e2, decide_eq_true e3, decide_eq_true e4]; rfl⟩)
/-- where a static field lies, its class's statics cell in H -/
def vx_L (C n d : String) (A : Nat → Prop) (U : State) (H : Heap) : Prop := ∃ (c : ClassId) (k : Class) (i : Nat) (f : Field) (a : Nat) (cell : Cell), U.vm.findClass C = some c ∧ U.fieldFound? C n d = some (c, k, i, f) ∧ f.isStatic = true ∧ k.statics = some a ∧ H[a]? = some cell ∧ cell.vm.isStatics = true ∧ cell.cls = c ∧ f.slot < cell.slots.size ∧ k.staticTypes[f.slot]? = some f.type ∧ ¬ A a
theorem vx_L.moved {C n d : String} {A : Nat → Prop} {u U : State} {H : Heap} (hvm : u.vm.Alike U.vm) (h : vx_L C n d A u H) : vx_L C n d A U H := by
  obtain ⟨c, k, i, f, a, cell, h1, h2, h3, h4, h5, h6, h7, h8, h9, h10⟩ := h
  obtain ⟨k', hi', he⟩ := State.fieldFound?_setVm hvm h2
  exact ⟨c, k', i, f, a, cell, by rw [hvm.findClass]; exact h1, hi', h3, by rw [he]; exact h4, h5, h6, h7, h8, by rw [he]; exact h9, h10⟩
theorem vx_L.kept {C n d : String} {A : Nat → Prop} {U : State} {H H1 : Heap} (h : vx_L C n d A U H) (hq : ∀ a : Nat, a < H.size → ¬ A a → H1[a]? = H[a]?) : vx_L C n d A U H1 := by
  obtain ⟨c, k, i, f, a, cell, h1, h2, h3, h4, h5, h6, h7, h8, h9, h10⟩ := h
  exact ⟨c, k, i, f, a, cell, h1, h2, h3, h4, by rw [hq a (Array.getElem?_eq_some_iff.mp h5).1 h10]; exact h5, h6, h7, h8, h9, h10⟩
theorem vx_L.narrow {C n d : String} {A B : Nat → Prop} {U : State} {H : Heap} (h : vx_L C n d A U H) (hAB : ∀ q, B q → A q) : vx_L C n d B U H := by
  obtain ⟨c, k, i, f, a, cell, h1, h2, h3, h4, h5, h6, h7, h8, h9, h10⟩ := h
  exact ⟨c, k, i, f, a, cell, h1, h2, h3, h4, h5, h6, h7, h8, h9, fun z => h10 (hAB _ z)⟩
theorem vx_L.word {C n d : String} {A : Nat → Prop} {s : State} {args : Array Value} (h : vx_L C n d A s s.heap) : (Cond.laysStatic C n d).before args s = true := by
  obtain ⟨c, k, i, f, a, cell, h1, h2, h3, h4, h5, h6, h7, h8, h9, -⟩ := h
  show (Cond.laysStatic C n d).holds args s none s [] = true
  exact Cond.laysStatic_of h1 h2 h3 h4 h5 h6 h7 h8 h9
/-- .. and what it holds: null or some reference -/
def vx_Zq (C n d : String) (A : Nat → Prop) (U : State) (H : Heap) : Prop := va_Zq C n d A U H ∧ vx_L C n d A U H
theorem vx_Zq.moved {C n d : String} {A : Nat → Prop} {u U : State} {H : Heap} (hvm : u.vm.Alike U.vm) (h : vx_Zq C n d A u H) : vx_Zq C n d A U H := ⟨va_Zq.moved hvm h.1, vx_L.moved hvm h.2⟩
theorem vx_Zq.kept {C n d : String} {A : Nat → Prop} {U : State} {H H1 : Heap} (h : vx_Zq C n d A U H) (hq : ∀ a : Nat, a < H.size → ¬ A a → H1[a]? = H[a]?) : vx_Zq C n d A U H1 := ⟨va_Zq.kept h.1 hq, vx_L.kept h.2 hq⟩
theorem vx_Zq.narrow {C n d : String} {A B : Nat → Prop} {U : State} {H : Heap} (h : vx_Zq C n d A U H) (hAB : ∀ q, B q → A q) : vx_Zq C n d B U H := ⟨va_Zq.narrow h.1 hAB, vx_L.narrow h.2 hAB⟩
theorem vx_Zqof {args : Array Value} {s : State} {C n d : String} {A : Nat → Prop} (hl : (Cond.laysStatic C n d).before args s = true) (hini : (Cond.initialized C).before args s = true) (h : (Cond.isRef (.static C n d)).before args s = true) (hA : ∀ a : Nat, a < s.heap.size → ¬ A a) : vx_Zq C n d A s s.heap := by
  refine ⟨va_Zqof hl hini h hA, ?_⟩
  obtain ⟨c, k, i, f, a, cell, h1, h2, h3, h4, h5, h6, h7, h8, h9⟩ := Cond.laysStatic_spec hl
  exact ⟨c, k, i, f, a, cell, h1, h2, h3, h4, h5, h6, h7, h8, h9, hA a (Array.getElem?_eq_some_iff.mp h5).1⟩
theorem vx_isRef {C n d : String} {v : Value} {A : Nat → Prop} {s : State} {args : Array Value} (h : va_Z C n d v A s s.heap) (hv : v.isRef = true) : (Cond.isRef (.static C n d)).before args s = true := by
  obtain ⟨cf, kf, fi, f, a, cell, h1, h2, h3, h4, h5, h6, h7, -⟩ := h
  have he : (Term.static C n d).eval args s none [] s = some v := by
    simp [Term.eval, State.fieldNamed?, h1, h2, h4, h5, h6, h7]
  simp only [Cond.before, Cond.holds, Cond.value, he]
  cases v <;> simp_all [Value.isRef]
theorem vx_isRefq {C n d : String} {A : Nat → Prop} {s : State} {args : Array Value} (h : va_Zq C n d A s s.heap) : (Cond.isRef (.static C n d)).before args s = true := by
  rcases h with h | ⟨t, h⟩
  · exact vx_isRef h rfl
  · exact vx_isRef h rfl
/-- the same frame, seen from here: as if the method were called anew in this heap -/
theorem vx_rebase {T : State} (X : Stand p l e R s m args below meth c T locs cells slots) {R' : Room} (hf : R'.frames ≤ R.frames) (hl : R'.locals ≤ R.locals) (hc : cells + R'.cells ≤ R.cells) (hs : slots + R'.slots ≤ R.slots) :
    Stand p l e R' ((T.setVm s.vm).setFrames (.invoking m args :: below)) m args below meth c T [] 0 0 := by
  have htop : (T.setVm s.vm).topJava?.isSome := X.here.top
  have hF : ((T.setVm s.vm).setFrames (.invoking m args :: below)).frames = .invoking m args :: below := State.frames_setFrames _ (State.cur_lt_of_top htop)
  obtain ⟨g₀, hg0⟩ := Option.isSome_iff_exists.mp htop
  obtain ⟨r, hr⟩ := State.topJava?_eq_some.mp hg0
  have hl9 : e.platform.stackLimits (T.setVm s.vm).me = e.platform.stackLimits s.me := X.limits
  have hb9 : (T.setVm s.vm).me.stackBytes = s.me.stackBytes := X.bytes
  refine ⟨X.admits, X.cas, X.clock, hF, ?_, X.hears, X.method, X.code, X.here, X.tail, X.warmed, ?_, ?_, ?_⟩
  · have h := X.room
    have hU : ((T.setVm s.vm).setFrames (.invoking m args :: below)).localsInUse = s.localsInUse := by
      rw [State.localsInUse_invoking hF (meth := meth) (c := c) X.method X.code, State.localsInUse_invoking X.frames X.method X.code]
    simp only [State.hasRoom, Bool.and_eq_true, decide_eq_true_eq] at h ⊢
    obtain ⟨⟨⟨⟨h1, h2, h3, h4, h5, h6⟩, h7⟩, h8⟩, h9⟩ := h
    rw [X.frames, List.length_cons] at h2 h3
    have q1 := X.heapSize
    have q2 := X.used
    simp only [hF, hU, List.length_cons, State.stackLimits_setFrames, State.stackBytes_setFrames, hl9, hb9]
    refine ⟨⟨⟨⟨by omega, by omega, by omega, by omega, by omega, h6⟩, ?_⟩, ?_⟩, X.book⟩
    · show T.heap.size + R'.cells ≤ e.platform.maxCells
      omega
    · show T.slotsUsed + R'.slots ≤ e.platform.maxSlots
      omega
  · rw [State.stackLimits_setFrames]; rfl
  · rw [State.stackBytes_setFrames]; rfl
  · refine ⟨?_, Nat.le_refl _, Nat.le_refl _, ?_, ?_, fun a c9 h9 => ⟨c9, h9, rfl, rfl, fun _ _ => rfl⟩⟩
    · obtain ⟨t, ht, -⟩ := State.frames_cons hr
      show T.setVm s.vm = { ((T.setVm s.vm).setFrames (.invoking m args :: below)).setFrames (T.setVm s.vm).frames with heap := T.heap, slotsUsed := T.slotsUsed }
      rw [State.setFrames_setFrames, State.setFrames_self ht]
      rfl
    · show T.slotsUsed = T.slotsUsed + ((T.heap.toList.drop T.heap.size).map (·.slots.size)).sum
      rw [List.drop_eq_nil_of_le (Nat.le_of_eq Array.length_toList)]
      rfl
    · show ((T.heap.toList.drop T.heap.size).map (·.slots.size)).sum ≤ 0
      rw [List.drop_eq_nil_of_le (Nat.le_of_eq Array.length_toList)]
      exact Nat.le_refl _
/-- 'throw new E()': new; dup; invokespecial; athrow -/
theorem vx_throw0 {cc : ByteArray} {pc : Nat} (hexec : p.tables.exec = Jvm.exec) (hb : c.code = cc) (hl : l.stackTraces = false) {own cls : String} {names : List String} {ik ic mc ms : Nat} {A : Nat → Prop}
    (hown : s.vm.findClass own = some m.cls) (hcls : Bundle.fit cls = true) (hnames : ∀ n ∈ names, Bundle.fit n = true)
    (hk : (Cond.classLink own ik cls).before args s = true) (hini : (Cond.initialized cls).before args s = true) (hat : ∀ w ∈ vx_at0 own ic cls names, w.before args s = true)
    (hgood : ∀ w ∈ Cond.classLink own ik cls :: Cond.initialized cls :: vx_at0 own ic cls names, vx_ot w = true)
    (hU : vx_Zq Bundle.tN "UNASSIGNED_STACK" Bundle.steD A s s.heap) (hN : vx_Zq Bundle.tN "SUPPRESSED_SENTINEL" Bundle.listD A s s.heap) (hS : va_S A s.heap H locs) (hsize : ls.size = c.maxLocals)
    (d0 : decode cc pc = .ok (.new ik, 3)) (d3 : decode cc (pc + 3) = .ok (.dup, 1)) (d4 : decode cc (pc + 4) = .ok (.invokespecial ic, 3)) (d7 : decode cc (pc + 7) = .ok (.athrow, 1))
    (hout : ∀ x ∈ c.exceptionTable.toList, covers x (pc + 7) = false)
    (hRframes : names.length + 3 < R.frames) (hRlocals : (rest.map fun v => v.category).sum + (13 * (names.length + 1) + 42) ≤ R.locals) (hRcells : cells + 1 ≤ R.cells) (hRslots : slots + 6 ≤ R.slots) (hlocks : meth.locks = false)
    (hx : ∀ t : State, s.vm.Alike t.vm → H.size ≤ t.heap.size → (∀ q : Nat, q < H.size → t.heap[q]? = H[q]?) → XC cls s t)
    (hf : ∀ z ∈ locs, free z.base) (hc : cells + 1 ≤ mc) (hs : slots + 6 ≤ ms) :
    W p l e R s m args below meth c H locs cells slots (vx_MQ below Qc XC args s mc ms free) (F0 m pc ls rest) := by
  intro T hT X
  have htr : e.platform.stackTraces = false := (show e.platform.stackTraces = l.stackTraces by rw [X.admits.platform]).trans hl
  have Y := vx_rebase X (R' := { frames := R.frames, locals := R.locals, cells := 1, slots := 6 }) (Nat.le_refl _) (Nat.le_refl _) hRcells hRslots
  obtain ⟨s', hA⟩ : ∃ z, z = (T.setVm s.vm).setFrames (.invoking m args :: below) := ⟨_, rfl⟩
  rw [← hA] at Y
  have hvm : s'.vm = s.vm := by rw [hA]; rfl
  have hhp : s'.heap = H := by rw [hA]; exact hT
  have hW0 : s.WarmedH s'.vm := by rw [hvm]; exact State.WarmedH.refl s
  have hat' : ∀ w ∈ vx_at0 own ic cls names, w.before args s' = true := fun w hw => vx_ot_at hW0 hvm.symm (hgood w (List.mem_cons_of_mem _ (List.mem_cons_of_mem _ hw))) (hat w hw)
  have hk' : (Cond.classLink own ik cls).before args s' = true := vx_ot_at hW0 hvm.symm (hgood _ List.mem_cons_self) hk
  have hini' : (Cond.initialized cls).before args s' = true := vx_ot_at hW0 hvm.symm (hgood _ (List.mem_cons_of_mem _ List.mem_cons_self)) hini
  have hU' : vx_Zq Bundle.tN "UNASSIGNED_STACK" Bundle.steD A s' s'.heap := by rw [hhp]; exact vx_Zq.moved hW0.alike (hU.kept hS.2.1)
  have hN' : vx_Zq Bundle.tN "SUPPRESSED_SENTINEL" Bundle.listD A s' s'.heap := by rw [hhp]; exact vx_Zq.moved hW0.alike (hN.kept hS.2.1)
  have h : ∀ w ∈ Bundle.ownAtoms0 own ic cls names, w.before args s' = true := vx_own hat' (vx_isRefq hU'.1) (vx_isRefq hN'.1) hU'.2.word hN'.2.word
  have hown' : s'.vm.findClass own = some m.cls := by rw [hvm]; exact hown
  have hins : (Cond.instantiable cls 6).before args s' = true := h _ (by simp [Bundle.ownAtoms0])
  obtain ⟨vm₁, cX, kX, hfX, hkX, -, -, X₁, st1⟩ := Y.newCold hexec (own := own) (C := cls) (index := ik) (n := 6) hown' hk' hins hini'
    (g := F0 m pc ls rest) rfl (by rw [hb]; exact d0) (Nat.le_refl _) (Nat.le_refl _)
  generalize hT1 : (T.setVm vm₁).pushCell { cls := cX, slots := kX.instanceTypes.map defaultValue, vm := .none } = T1 at X₁ st1
  have hcat : (Value.ref T.heap.size).category = 1 := rfl
  have hcellA : T1.heap[T.heap.size]? = some (freshCell cX kX) := by rw [← hT1]; exact State.heap_pushCell_size _ _
  have d3' : decode c.code (pc + 3) = .ok (.dup, 1) := by rw [hb]; exact d3
  obtain ⟨U, hsteps, hrun, hend, hW, hsame, ce, hce, hO⟩ := X₁.ctorThrow0 hexec htr (own := own) (cls := cls) (names := names) (ic := ic) hown' hcls hnames h (fun x hx => nomatch hx) hfX hkX hcellA (by rw [hhp, hT]; exact Nat.le_refl _)
    (g := { method := m, pc := pc + 4, locals := ls, stack := .ref T.heap.size :: .ref T.heap.size :: rest, locked := none }) rfl hsize rfl rfl (rest := rest) rfl
    (by rw [hb]; exact d4) (by rw [hb]; exact d7) hout hRframes (by simp only [List.map_cons, List.sum_cons, hcat]; omega) hlocks
  obtain ⟨f1, f2⟩ := vx_frame hsame
  rw [hhp] at f1 f2
  have hWs : s.WarmedH U.vm := State.WarmedH.trans hW0 hW
  have hcl : s.vm.findClass cls = some ce.cls := by
    have h9 := hO.cls
    rw [hvm] at h9
    exact h9
  have hall : s.sameButNew ({ U with vm := s.vm } : State) locs mc ms := by
    subst hA
    obtain ⟨e1, e2⟩ := hsame
    rw [State.setFrames_setFrames] at e1
    have h2 : (T.setVm s.vm).sameButNew ({ U with vm := s.vm } : State) [] (0 + 1) (0 + 6) := ⟨e1, e2⟩
    have h3 := X.same.trans h2
    rw [List.append_nil] at h3
    exact h3.mono hc hs
  refine ⟨U, ?_, .threw T.heap.size, hrun, hend, Or.inr ⟨T.heap.size, rfl, cls, ce, locs, hx U hWs.alike f1 (fun q hq => f2 q hq (fun z hz => nomatch hz)), hce, hO.vm, hcl, hWs, hall, hf⟩⟩
  refine st1 _ ?_
  show Steps p.tables e below (T1.setTop { method := m, pc := pc + 3, locals := ls, stack := .ref T.heap.size :: rest, locked := none }) _
  jvm_step X₁.here [X₁.here.top, hexec, d3', Value.category]
  exact hsteps
/-- 'throw new E("text")': new; dup; ldc; invokespecial; athrow -/
theorem vx_throwS {cc : ByteArray} {pc : Nat} (hexec : p.tables.exec = Jvm.exec) (hb : c.code = cc) (hl : l.stackTraces = false) {own cls text : String} {names : List String} {ik is ic mc ms sa : Nat} {A : Nat → Prop}
    (hown : s.vm.findClass own = some m.cls) (hcls : Bundle.fit cls = true) (hnames : ∀ n ∈ names, Bundle.fit n = true)
    (hk : (Cond.classLink own ik cls).before args s = true) (hini : (Cond.initialized cls).before args s = true) (hstr : vk_R own is text sa s) (hat : ∀ w ∈ vx_atS own ic cls names, w.before args s = true)
    (hgood : ∀ w ∈ Cond.classLink own ik cls :: Cond.initialized cls :: vx_atS own ic cls names, vx_ot w = true)
    (hU : vx_Zq Bundle.tN "UNASSIGNED_STACK" Bundle.steD A s s.heap) (hN : vx_Zq Bundle.tN "SUPPRESSED_SENTINEL" Bundle.listD A s s.heap) (hS : va_S A s.heap H locs) (hsize : ls.size = c.maxLocals)
    (d0 : decode cc pc = .ok (.new ik, 3)) (d3 : decode cc (pc + 3) = .ok (.dup, 1)) (d4 : decode cc (pc + 4) = .ok (.ldc is, 2)) (d6 : decode cc (pc + 6) = .ok (.invokespecial ic, 3)) (d9 : decode cc (pc + 9) = .ok (.athrow, 1))
    (hout : ∀ x ∈ c.exceptionTable.toList, covers x (pc + 9) = false)
    (hRframes : names.length + 3 < R.frames) (hRlocals : (rest.map fun v => v.category).sum + (13 * (names.length + 1) + 43) ≤ R.locals) (hRcells : cells + 1 ≤ R.cells) (hRslots : slots + 6 ≤ R.slots) (hlocks : meth.locks = false)
    (hx : ∀ t : State, s.vm.Alike t.vm → H.size ≤ t.heap.size → (∀ q : Nat, q < H.size → t.heap[q]? = H[q]?) → XC cls s t)
    (hf : ∀ z ∈ locs, free z.base) (hc : cells + 1 ≤ mc) (hs : slots + 6 ≤ ms) :
    W p l e R s m args below meth c H locs cells slots (vx_MQ below Qc XC args s mc ms free) (F0 m pc ls rest) := by
  intro T hT X
  have htr : e.platform.stackTraces = false := (show e.platform.stackTraces = l.stackTraces by rw [X.admits.platform]).trans hl
  have Y := vx_rebase X (R' := { frames := R.frames, locals := R.locals, cells := 1, slots := 6 }) (Nat.le_refl _) (Nat.le_refl _) hRcells hRslots
  obtain ⟨s', hA⟩ : ∃ z, z = (T.setVm s.vm).setFrames (.invoking m args :: below) := ⟨_, rfl⟩
  rw [← hA] at Y
  have hvm : s'.vm = s.vm := by rw [hA]; rfl
  have hhp : s'.heap = H := by rw [hA]; exact hT
  have hW0 : s.WarmedH s'.vm := by rw [hvm]; exact State.WarmedH.refl s
  have hat' : ∀ w ∈ vx_atS own ic cls names, w.before args s' = true := fun w hw => vx_ot_at hW0 hvm.symm (hgood w (List.mem_cons_of_mem _ (List.mem_cons_of_mem _ hw))) (hat w hw)
  have hk' : (Cond.classLink own ik cls).before args s' = true := vx_ot_at hW0 hvm.symm (hgood _ List.mem_cons_self) hk
  have hini' : (Cond.initialized cls).before args s' = true := vx_ot_at hW0 hvm.symm (hgood _ (List.mem_cons_of_mem _ List.mem_cons_self)) hini
  have hU' : vx_Zq Bundle.tN "UNASSIGNED_STACK" Bundle.steD A s' s'.heap := by rw [hhp]; exact vx_Zq.moved hW0.alike (hU.kept hS.2.1)
  have hN' : vx_Zq Bundle.tN "SUPPRESSED_SENTINEL" Bundle.listD A s' s'.heap := by rw [hhp]; exact vx_Zq.moved hW0.alike (hN.kept hS.2.1)
  have h : ∀ w ∈ Bundle.ownAtoms own ic cls names, w.before args s' = true := vx_own hat' (vx_isRefq hU'.1) (vx_isRefq hN'.1) hU'.2.word hN'.2.word
  have hown' : s'.vm.findClass own = some m.cls := by rw [hvm]; exact hown
  have hins : (Cond.instantiable cls 6).before args s' = true := h _ (by simp [Bundle.ownAtoms])
  obtain ⟨vm₁, cX, kX, hfX, hkX, -, -, X₁, st1⟩ := Y.newCold hexec (own := own) (C := cls) (index := ik) (n := 6) hown' hk' hins hini'
    (g := F0 m pc ls rest) rfl (by rw [hb]; exact d0) (Nat.le_refl _) (Nat.le_refl _)
  generalize hT1 : (T.setVm vm₁).pushCell { cls := cX, slots := kX.instanceTypes.map defaultValue, vm := .none } = T1 at X₁ st1
  have hcat : (Value.ref T.heap.size).category = 1 := rfl
  have hcellA : T1.heap[T.heap.size]? = some (freshCell cX kX) := by rw [← hT1]; exact State.heap_pushCell_size _ _
  have d3' : decode c.code (pc + 3) = .ok (.dup, 1) := by rw [hb]; exact d3
  have d4' : decode c.code (pc + 4) = .ok (.ldc is, 2) := by rw [hb]; exact d4
  have hstr' : vk_R own is text sa s' := vk_R.warm hW0 hstr
  obtain ⟨U, hsteps, hrun, hend, hW, hsame, ce, hce, hO⟩ := X₁.ctorThrowS hexec htr (own := own) (cls := cls) (names := names) (ic := ic) hown' hcls hnames h (fun x hx => nomatch hx) hfX hkX hcellA (by rw [hhp, hT]; exact Nat.le_refl _) (msg := .ref sa) rfl
    (g := { method := m, pc := pc + 6, locals := ls, stack := .ref sa :: .ref T.heap.size :: .ref T.heap.size :: rest, locked := none }) rfl hsize rfl rfl (rest := rest) rfl
    (by rw [hb]; exact d6) (by rw [hb]; exact d9) hout hRframes (by simp only [List.map_cons, List.sum_cons, hcat]; omega) hlocks
  obtain ⟨f1, f2⟩ := vx_frame hsame
  rw [hhp] at f1 f2
  have hWs : s.WarmedH U.vm := State.WarmedH.trans hW0 hW
  have hcl : s.vm.findClass cls = some ce.cls := by
    have h9 := hO.cls
    rw [hvm] at h9
    exact h9
  have hall : s.sameButNew ({ U with vm := s.vm } : State) locs mc ms := by
    subst hA
    obtain ⟨e1, e2⟩ := hsame
    rw [State.setFrames_setFrames] at e1
    have h2 : (T.setVm s.vm).sameButNew ({ U with vm := s.vm } : State) [] (0 + 1) (0 + 6) := ⟨e1, e2⟩
    have h3 := X.same.trans h2
    rw [List.append_nil] at h3
    exact h3.mono hc hs
  refine ⟨U, ?_, .threw T.heap.size, hrun, hend, Or.inr ⟨T.heap.size, rfl, cls, ce, locs, hx U hWs.alike f1 (fun q hq => f2 q hq (fun z hz => nomatch hz)), hce, hO.vm, hcl, hWs, hall, hf⟩⟩
  refine st1 _ ?_
  show Steps p.tables e below (T1.setTop { method := m, pc := pc + 3, locals := ls, stack := .ref T.heap.size :: rest, locked := none }) _
  jvm_step X₁.here [X₁.here.top, hexec, d3', Value.category]
  exact X₁.ldcString hexec (own := own) (text := text) (index := is) (a := sa) hown' hstr'.1 hstr'.2
    (g := { method := m, pc := pc + 4, locals := ls, stack := .ref T.heap.size :: .ref T.heap.size :: rest, locked := none }) rfl d4' _ hsteps
/-- 'throw new E("text")', the text by a wide index -/
theorem vx_throwSW {cc : ByteArray} {pc : Nat} (hexec : p.tables.exec = Jvm.exec) (hb : c.code = cc) (hl : l.stackTraces = false) {own cls text : String} {names : List String} {ik is ic mc ms sa : Nat} {A : Nat → Prop}
    (hown : s.vm.findClass own = some m.cls) (hcls : Bundle.fit cls = true) (hnames : ∀ n ∈ names, Bundle.fit n = true)
    (hk : (Cond.classLink own ik cls).before args s = true) (hini : (Cond.initialized cls).before args s = true) (hstr : vk_R own is text sa s) (hat : ∀ w ∈ vx_atS own ic cls names, w.before args s = true)
    (hgood : ∀ w ∈ Cond.classLink own ik cls :: Cond.initialized cls :: vx_atS own ic cls names, vx_ot w = true)
    (hU : vx_Zq Bundle.tN "UNASSIGNED_STACK" Bundle.steD A s s.heap) (hN : vx_Zq Bundle.tN "SUPPRESSED_SENTINEL" Bundle.listD A s s.heap) (hS : va_S A s.heap H locs) (hsize : ls.size = c.maxLocals)
    (d0 : decode cc pc = .ok (.new ik, 3)) (d3 : decode cc (pc + 3) = .ok (.dup, 1)) (d4 : decode cc (pc + 4) = .ok (.ldc_w is, 3)) (d7 : decode cc (pc + 7) = .ok (.invokespecial ic, 3)) (d10 : decode cc (pc + 10) = .ok (.athrow, 1))
    (hout : ∀ x ∈ c.exceptionTable.toList, covers x (pc + 10) = false)
    (hRframes : names.length + 3 < R.frames) (hRlocals : (rest.map fun v => v.category).sum + (13 * (names.length + 1) + 43) ≤ R.locals) (hRcells : cells + 1 ≤ R.cells) (hRslots : slots + 6 ≤ R.slots) (hlocks : meth.locks = false)
    (hx : ∀ t : State, s.vm.Alike t.vm → H.size ≤ t.heap.size → (∀ q : Nat, q < H.size → t.heap[q]? = H[q]?) → XC cls s t)
    (hf : ∀ z ∈ locs, free z.base) (hc : cells + 1 ≤ mc) (hs : slots + 6 ≤ ms) :
    W p l e R s m args below meth c H locs cells slots (vx_MQ below Qc XC args s mc ms free) (F0 m pc ls rest) := by
  intro T hT X
  have htr : e.platform.stackTraces = false := (show e.platform.stackTraces = l.stackTraces by rw [X.admits.platform]).trans hl
  have Y := vx_rebase X (R' := { frames := R.frames, locals := R.locals, cells := 1, slots := 6 }) (Nat.le_refl _) (Nat.le_refl _) hRcells hRslots
  obtain ⟨s', hA⟩ : ∃ z, z = (T.setVm s.vm).setFrames (.invoking m args :: below) := ⟨_, rfl⟩
  rw [← hA] at Y
  have hvm : s'.vm = s.vm := by rw [hA]; rfl
  have hhp : s'.heap = H := by rw [hA]; exact hT
  have hW0 : s.WarmedH s'.vm := by rw [hvm]; exact State.WarmedH.refl s
  have hat' : ∀ w ∈ vx_atS own ic cls names, w.before args s' = true := fun w hw => vx_ot_at hW0 hvm.symm (hgood w (List.mem_cons_of_mem _ (List.mem_cons_of_mem _ hw))) (hat w hw)
  have hk' : (Cond.classLink own ik cls).before args s' = true := vx_ot_at hW0 hvm.symm (hgood _ List.mem_cons_self) hk
  have hini' : (Cond.initialized cls).before args s' = true := vx_ot_at hW0 hvm.symm (hgood _ (List.mem_cons_of_mem _ List.mem_cons_self)) hini
  have hU' : vx_Zq Bundle.tN "UNASSIGNED_STACK" Bundle.steD A s' s'.heap := by rw [hhp]; exact vx_Zq.moved hW0.alike (hU.kept hS.2.1)
  have hN' : vx_Zq Bundle.tN "SUPPRESSED_SENTINEL" Bundle.listD A s' s'.heap := by rw [hhp]; exact vx_Zq.moved hW0.alike (hN.kept hS.2.1)
  have h : ∀ w ∈ Bundle.ownAtoms own ic cls names, w.before args s' = true := vx_own hat' (vx_isRefq hU'.1) (vx_isRefq hN'.1) hU'.2.word hN'.2.word
  have hown' : s'.vm.findClass own = some m.cls := by rw [hvm]; exact hown
  have hins : (Cond.instantiable cls 6).before args s' = true := h _ (by simp [Bundle.ownAtoms])
  obtain ⟨vm₁, cX, kX, hfX, hkX, -, -, X₁, st1⟩ := Y.newCold hexec (own := own) (C := cls) (index := ik) (n := 6) hown' hk' hins hini'
    (g := F0 m pc ls rest) rfl (by rw [hb]; exact d0) (Nat.le_refl _) (Nat.le_refl _)
  generalize hT1 : (T.setVm vm₁).pushCell { cls := cX, slots := kX.instanceTypes.map defaultValue, vm := .none } = T1 at X₁ st1
  have hcat : (Value.ref T.heap.size).category = 1 := rfl
  have hcellA : T1.heap[T.heap.size]? = some (freshCell cX kX) := by rw [← hT1]; exact State.heap_pushCell_size _ _
  have d3' : decode c.code (pc + 3) = .ok (.dup, 1) := by rw [hb]; exact d3
  have d4' : decode c.code (pc + 4) = .ok (.ldc_w is, 3) := by rw [hb]; exact d4
  have hstr' : vk_R own is text sa s' := vk_R.warm hW0 hstr
  obtain ⟨U, hsteps, hrun, hend, hW, hsame, ce, hce, hO⟩ := X₁.ctorThrowS hexec htr (own := own) (cls := cls) (names := names) (ic := ic) hown' hcls hnames h (fun x hx => nomatch hx) hfX hkX hcellA (by rw [hhp, hT]; exact Nat.le_refl _) (msg := .ref sa) rfl
    (g := { method := m, pc := pc + 7, locals := ls, stack := .ref sa :: .ref T.heap.size :: .ref T.heap.size :: rest, locked := none }) rfl hsize rfl rfl (rest := rest) rfl
    (by rw [hb]; exact d7) (by rw [hb]; exact d10) hout hRframes (by simp only [List.map_cons, List.sum_cons, hcat]; omega) hlocks
  obtain ⟨f1, f2⟩ := vx_frame hsame
  rw [hhp] at f1 f2
  have hWs : s.WarmedH U.vm := State.WarmedH.trans hW0 hW
  have hcl : s.vm.findClass cls = some ce.cls := by
    have h9 := hO.cls
    rw [hvm] at h9
    exact h9
  have hall : s.sameButNew ({ U with vm := s.vm } : State) locs mc ms := by
    subst hA
    obtain ⟨e1, e2⟩ := hsame
    rw [State.setFrames_setFrames] at e1
    have h2 : (T.setVm s.vm).sameButNew ({ U with vm := s.vm } : State) [] (0 + 1) (0 + 6) := ⟨e1, e2⟩
    have h3 := X.same.trans h2
    rw [List.append_nil] at h3
    exact h3.mono hc hs
  refine ⟨U, ?_, .threw T.heap.size, hrun, hend, Or.inr ⟨T.heap.size, rfl, cls, ce, locs, hx U hWs.alike f1 (fun q hq => f2 q hq (fun z hz => nomatch hz)), hce, hO.vm, hcl, hWs, hall, hf⟩⟩
  refine st1 _ ?_
  show Steps p.tables e below (T1.setTop { method := m, pc := pc + 3, locals := ls, stack := .ref T.heap.size :: rest, locked := none }) _
  jvm_step X₁.here [X₁.here.top, hexec, d3', Value.category]
  exact X₁.ldcStringW hexec (own := own) (text := text) (index := is) (a := sa) hown' hstr'.1 hstr'.2
    (g := { method := m, pc := pc + 4, locals := ls, stack := .ref T.heap.size :: .ref T.heap.size :: rest, locked := none }) rfl d4' _ hsteps
end Ends
section Bodies
variable {l : Launch}
theorem vx_ofW {y : MethodName} {ws ws' : List Cond} {rm : Room} {Pc : Array Value → State → Prop} {Qc : Array Value → State → Outcome → State → Prop} {XC : String → State → State → Prop} {mc ms : Nat} {free : Addr → Prop} {cc : ByteArray} {maxL : Nat} {ret : Option FieldType}
    (hy : plainName y.cls = true) (hw : ws = Cond.code y cc maxL ret :: ws')
    (body : ∀ p e s m args below meth c s₁, BodyLoose p l y (headSpec ws rm) cc maxL ret e s m args below meth c s₁ → c.maxLocals = maxL → (∀ x ∈ c.exceptionTable.toList, False) → Pc args s →
      W p l e (headSpec ws rm).room s m args below meth c s.heap [] 0 0 (vx_MQ below Qc XC args s mc ms free) (entryFrame m args maxL)) : vx_Met l y ws rm Pc Qc XC mc ms free := by
  refine MetFree.of_bodyS (code := cc) (maxLocals := maxL) (ret := ret) hy ?_ ?_
  · intro args s m h hn
    obtain ⟨meth, c, h1, h2, h3, h4, h5, h6, -, -⟩ := Cond.code_spec hn (atoms_spec (ws := ws) h _ (by rw [hw]; exact List.mem_cons_self))
    exact ⟨meth, c, h1, h2, h3, h4, h5, h6⟩
  · intro p e s m args below meth c s₁ B hml hP _
    have hh0 : s₁.heap = s.heap := by rw [B.state]; rfl
    have ht : ∀ x ∈ c.exceptionTable.toList, False := by
      obtain ⟨meth9, c9, h1, h2, -, -, -, -, h7, -⟩ := Cond.code_spec B.named (atoms_spec (ws := ws) B.pre _ (by rw [hw]; exact List.mem_cons_self))
      cases Option.some.inj (h1.symm.trans B.method)
      cases Option.some.inj (h2.symm.trans (Stand.of_body B).code)
      intro x hx
      rw [Array.isEmpty_iff.mp h7] at hx
      cases hx
    obtain ⟨t, a1, o, b1, b2, b3⟩ := body p e s m args below meth c s₁ B hml ht hP s₁ hh0 (Stand.of_body B)
    exact ⟨t, o, a1, b1, b2, b3⟩
/-- the table of a body with handlers -/
theorem vx_table {p : Program} {x y : MethodName} {S : Spec} {cc bytes : ByteArray} {maxL maxL' : Nat} {ret ret' : Option FieldType} {e : Env} {s s₁ : State} {m : MethodId} {args : Array Value} {below : List Frame} {meth : Method} {c : Code} {hh : List (Nat × Nat × Nat × Nat)}
    (B : BodyLoose p l y S cc maxL ret e s m args below meth c s₁) (h : (Cond.codeWith y bytes maxL' ret' hh).before args s = true) : c.exceptionTable.toList = tableOf hh := by
  obtain ⟨m9, meth9, c9, hn9, h1, h2, -, -, h6, -⟩ := Cond.codeWith_spec h
  cases Option.some.inj (hn9.symm.trans B.named)
  cases Option.some.inj (h1.symm.trans B.method)
  cases Option.some.inj (h2.symm.trans (Stand.of_body B).code)
  rw [← h6, table_eq]
end Bodies
end VXA
/-! ===== END ===== -/
/-! ===== BEGIN a static call of a method with an exception table ===== -/
section VXS
variable {p : Program} {l : Launch} {e : Env} {R : Room} {s : State} {m : MethodId} {args : Array Value} {below : List Frame} {meth : Method} {c : Code} {T : State} {H : Heap} {locs : List Loc} {cells slots : Nat}
abbrev vx_CSW (R : Room) (s : State) (args : Array Value) (own : String) (index : Nat) (y : MethodName) (bytes : ByteArray) (maxL : Nat) (ret : Option FieldType) (hh : List (Nat × Nat × Nat × Nat)) (ws : List Cond) (rm : Room) (mc ms n : Nat) : Prop :=
  (rm.cells = mc ∧ rm.slots = ms ∧ rm.frames + 1 ≤ R.frames ∧ 8 + (maxL + 11) + rm.locals ≤ R.locals ∧ (∀ w ∈ ws, ∀ (a' : Array Value) (U : State), s.WarmedH U.vm → w.before a' U = true) ∧ Cond.codeWith y bytes maxL ret hh ∈ ws) ∧
  (Cond.codeWith y bytes maxL ret hh).before args s = true ∧ (Cond.initialized y.cls).before args s = true ∧ (y.cls ≠ "java/lang/invoke/MethodHandle" ∧ y.cls ≠ "java/lang/invoke/VarHandle") ∧
  (∀ sig, parseMethodDescriptor y.desc = some sig → n = sig.parameters.length) ∧ (Cond.methodLink own index y).before args s = true ∧ (Cond.static y).before args s = true
theorem vx_cwSW {own : String} {index maxL mc ms : Nat} {y : MethodName} {bytes : ByteArray} {ret : Option FieldType} {hh : List (Nat × Nat × Nat × Nat)} {Ts ws ws' : List Cond} {rm : Room} (n : Nat) (ht : ∀ w ∈ Ts, w.before args s = true) (hT : GoodIn Ts (va_wsS own index y ws)) (hw : ws = Cond.codeWith y bytes maxL ret hh :: ws') (hrc : rm.cells = mc) (hrs : rm.slots = ms)
    (hd : y.cls ≠ "java/lang/invoke/MethodHandle" ∧ y.cls ≠ "java/lang/invoke/VarHandle" ∧ (parseMethodDescriptor y.desc).map (fun d => d.parameters.length) = some n) (hR : rm.frames + 1 ≤ R.frames ∧ 8 + (maxL + 11) + rm.locals ≤ R.locals) :
    vx_CSW R s args own index y bytes maxL ret hh ws rm mc ms n := by
  have ok : ∀ w ∈ va_wsS own index y ws, w.before args s = true := fun w h => ht w (hT w h).1
  have hG : GoodIn Ts ws := fun w h => hT w (by unfold va_wsS; exact List.mem_append_right _ h)
  have hc : Cond.codeWith y bytes maxL ret hh ∈ ws := by rw [hw]; exact List.mem_cons_self
  refine ⟨⟨hrc, hrs, hR.1, hR.2, pay_in ht hG, hc⟩, ht _ (hG _ hc).1, ok _ (by simp [va_wsS]), ⟨hd.1, hd.2.1⟩, fun sig h => ?_, ok _ (by simp [va_wsS]), ok _ (by simp [va_wsS])⟩
  have h2 := hd.2.2
  rw [h] at h2
  exact (Option.some.inj h2).symm
theorem vx_callSW (X : Stand p l e R s m args below meth c T locs cells slots) (hexec : p.tables.exec = Jvm.exec) {own : String} {index : Nat} {y : MethodName} {bytes : ByteArray} {maxL : Nat} {ret : Option FieldType} {hh : List (Nat × Nat × Nat × Nat)}
    (hown : s.vm.findClass own = some m.cls) (hlink : (Cond.methodLink own index y).before args s = true) (hstat : (Cond.static y).before args s = true) (hinit : (Cond.initialized y.cls).before args s = true)
    (hcode : (Cond.codeWith y bytes maxL ret hh).before args s = true) (hy : y.cls ≠ "java/lang/invoke/MethodHandle" ∧ y.cls ≠ "java/lang/invoke/VarHandle")
    {W9 : Nat} {Pre : Pt → Array Value → Prop} {Post : Pt → Array Value → Option Value → Pt → Prop} (hK : Back l R p e below s args y 3 W9 Pre Post)
    {g : JFrame} (hg : g.method = m) (hsize : g.locals.size = c.maxLocals) {argsL rest : List Value} (hlen : ∀ sig, parseMethodDescriptor y.desc = some sig → argsL.length = sig.parameters.length)
    (hstack : g.stack = argsL.reverse ++ rest) (hW : 2 * g.monitorRoom + (rest.map fun v => v.category).sum ≤ W9) (hdg : decode c.code g.pc = .ok (.invokestatic index, 3))
    (hpre : ∀ vm₁, s.WarmedH vm₁ → Pre ⟨T.setVm vm₁, locs, cells, slots⟩ argsL.toArray) :
    ∃ (v : Option Value) (vm₁ : Vm) (B : Pt), s.WarmedH vm₁ ∧ Stand p l e R s m args below meth c B.U B.locs B.cells B.slots ∧ Post ⟨T.setVm vm₁, locs, cells, slots⟩ argsL.toArray v B ∧
      ∀ target, Steps p.tables e below (B.U.setTop { g with pc := g.pc + 3, stack := v.toList ++ rest }) target → Steps p.tables e below (T.setTop g) target := by
  obtain ⟨mk, methM, cM, hnamed, hmethM, -, -, -, -, -, -, hsigM⟩ := Cond.codeWith_spec hcode
  have hstatic : methM.isStatic = true := Cond.static_spec hnamed hmethM hstat
  obtain ⟨kP, hkP, -⟩ := className_of_methodNamed hnamed
  have hinitP : kP.init = .initialized := Cond.initialized_spec (findClass_of_methodNamed hnamed) hkP hinit
  obtain ⟨vm₁, X₁, hstep₁⟩ := X.invokestatic hexec hown hlink hnamed hmethM hstatic hkP hinitP hy (g := g) hg (argsL := argsL) (rest := rest) (hlen _ hsigM) hstack hdg
  obtain ⟨v, B, X', hpost, hsteps⟩ := hK m meth c ⟨T.setVm vm₁, locs, cells, slots⟩ { g with stack := rest } (.invokestatic index) mk argsL.toArray X₁ hg hsize hdg hW (X₁.named hnamed) (hpre vm₁ X₁.warmed)
  exact ⟨v, vm₁, B, X₁.warmed, X', hpost, fun target h => hstep₁ _ fun acts => by rw [doInvoke_state]; exact hsteps.trans h⟩
theorem vx_runSW {y : MethodName} {bytes cc : ByteArray} {maxL nL mc ms n index : Nat} {ret : Option FieldType} {hh : List (Nat × Nat × Nat × Nat)} {ws : List Cond} {rm : Room} {Pc : Array Value → State → Prop} {Qc : Array Value → State → Outcome → State → Prop} {free : Addr → Prop} {Ts : List Cond} {own : String} {As rest : List Value} {g : JFrame}
    (S : CallFix p m c cc nL s args Ts own) (hM : Met l y ws rm Pc Qc mc ms free) (cw : vx_CSW R s args own index y bytes maxL ret hh ws rm mc ms n) (hp : PreS s H Pc As)
    (hg : g.method = m) (hn : As.length = n) (hsize : g.locals.size = nL) (hstack : g.stack = As.reverse ++ rest) (hW : 2 * g.monitorRoom + (rest.map fun v => v.category).sum ≤ 8) (hdg : decode cc g.pc = .ok (.invokestatic index, 3)) (hf : cells + mc ≤ R.cells ∧ slots + ms ≤ R.slots) :
    va_Run p l e R s m args below meth c H locs cells slots mc ms g rest (Qc As.toArray) (free) := by
  obtain ⟨⟨hrc, hrs, hfr, hlo, hws, hcw⟩, hcode, hini, hy, hlen, hl, hstt⟩ := cw
  have hK : Back l R p e below s args y 3 8 (PreOf R mc ms Pc) (PostOf Qc mc ms free) := va_backW (hh := hh) (bytes := bytes) (maxL := maxL) (ret := ret) hM hp.1 hrc hrs hfr hlo hws hcw (fun a' U hW => word_at hW (Or.inl (by first | rfl | simp [Cond.onTables, Cond.keeps, Cond.steady])) hini)
  obtain ⟨hx, hb, hml, ho, -⟩ := S
  intro T hT X
  obtain ⟨v, vm₁, ⟨U', l2, c2, s2⟩, hW₁, X', ⟨g', mk, t, L, e1, e2, hq, h1, hL, h2, h3⟩, st⟩ := vx_callSW X hx (hh := hh) (bytes := bytes) (maxL := maxL) (ret := ret) ho hl hstt hini hcode hy hK hg (hsize.trans hml.symm) (argsL := As) (rest := rest) (fun sig h => hn.trans (hlen sig h)) hstack hW (by rw [hb]; exact hdg)
    (fun vm₁ hW₁ => ⟨hf.1, hf.2, hp.2 (T.setVm vm₁) hT hW₁⟩)
  dsimp only [Pt.U, Pt.locs, Pt.cells, Pt.slots] at X' e1 e2 h1 h2 h3 st
  subst h1; subst h2; subst h3
  exact ⟨v, (T.setVm vm₁).calling g' mk As.toArray, t, U', L, hT, X', hL, e1, e2, hq, st⟩
/-- not caught here, past rows that name other classes: it goes on to the caller -/
theorem vx_outP {p : Program} {l : Launch} {e : Env} {R : Room} {s : State} {m : MethodId} {args : Array Value} {below : List Frame} {meth : Method} {c : Code} {H : Heap} {locs : List Loc} {cells slots : Nat} {free : Addr → Prop} {ls : Array Slot} {rest : List Value} {Qc : Array Value → State → Outcome → State → Prop} {XC : String → State → State → Prop}
    {pc : Nat} {own E : String} {ce : Cell} {q : Addr} {mc ms : Nat} (hown : s.vm.findClass own = some m.cls) (hlocks : meth.locks = false)
    (hpass : ∀ z ∈ c.exceptionTable.toList, covers z pc = false ∨ (z.catchType ≠ 0 ∧ ∃ nm : String, (Cond.classLink own z.catchType nm).before args s = true ∧ va_Nc E nm s)) (hcell : H[q]? = some ce) (hv : ce.vm = .none) (hcl : s.vm.findClass E = some ce.cls)
    (hx : ∀ t : State, t.heap = H → s.vm.Alike t.vm → XC E s t) (hf : ∀ z ∈ locs, free z.base) (hc : cells ≤ mc) (hs : slots ≤ ms) :
    vx_W p l e R s m args below meth c H locs cells slots (vx_MQ below Qc XC args s mc ms free) (F0 m pc ls rest) q := by
  intro T hT X
  have hpl : e.platform.magicAccessors = ({} : Platform).magicAccessors := by rw [X.admits.platform]
  obtain ⟨vm', hW', X', st⟩ := X.outThrough hlocks q (g := F0 m pc ls rest) rfl rfl rfl (cell := ce) (by rw [hT]; exact hcell) (by rw [hv]; rfl)
    (by obtain ⟨k9, h9, -⟩ := Vm.findClass_spec hcl; exact ⟨k9, h9⟩) (fun z hz => by
      rcases hpass z hz with h | ⟨hz0, nm, hl1, hn1⟩
      · exact Or.inl h
      · obtain ⟨c6, hc6, hcl6⟩ := Cond.classLink_spec hown hl1 e.platform hpl
        obtain ⟨a8, b8, h1, h2, h3⟩ := hn1
        cases Option.some.inj (h1.symm.trans hcl)
        cases Option.some.inj (h2.symm.trans hc6)
        exact Or.inr ⟨hz0, _, hcl6, h3⟩)
  obtain ⟨g₀, hfr⟩ := X'.frames_eq
  have hcell9 : ((T.setVm vm').setFrames (.throwing q :: below)).heap[q]? = some ce := by
    show T.heap[q]? = some ce
    rw [hT]; exact hcell
  have hend : Ended ((T.setVm vm').setFrames (.throwing q :: below)) below (.threw q) := State.frames_setFrames _ (State.cur_lt_of_frames hfr)
  refine ⟨(T.setVm vm').setFrames (.throwing q :: below), ?_, .threw q, X'.here.running, hend, Or.inr ⟨q, rfl, E, ce, locs, hx _ hT (X'.ends _).1.alike, hcell9, hv, hcl, (X'.ends _).1, (X'.ends _).2.mono hc hs, hf⟩⟩
  rw [X.pushThrowing_eq]
  exact st
/-- a thing of a world lies in the heap -/
theorem vx_lt {D : va_G} {cl : List vw_C} {ws : va_W} {H1 : Heap} (h : va_P D cl ws H1) {k : Nat} {q : Nat × va_E} (hk : ws[k]? = some q) : q.1 < H1.size := (h k q hk).lt
end VXS
/-! ===== END ===== -/
/-! ===== BEGIN methods with a table of their own: called by a name, returning or throwing ===== -/
section VXH
/-! vx_backW, vx_callVX, vx_callSX, vx_callVW, vx_runVW, vx_runVX, vx_runSX, vx_ofWH follow the same proofs as their sisters above (Free/Laws.lean, Shelf42/LK1.lean); vx_outP calls Shelf42/NT130.lean (outThrough). -/
section
variable {l : Launch} {R : Room} {p : Program} {e : Env} {below : List Frame} {s : State} {sargs : Array Value} {y : MethodName} {len W9 : Nat}
theorem vx_backW {ws : List Cond} {rm : Room} {Pc : Array Value → State → Prop} {Qc : Array Value → State → Outcome → State → Prop} {XC : String → State → State → Prop} {mc ms : Nat} {free : Addr → Prop} {bytes : ByteArray} {maxL : Nat} {ret : Option FieldType} {hh : List (Nat × Nat × Nat × Nat)}
    (hM : vx_Met l y ws rm Pc Qc XC mc ms free) (hblind : FrameBlind Pc) (hrc : rm.cells = mc) (hrs : rm.slots = ms)
    (hframes : rm.frames + 1 ≤ R.frames) (hlocals : W9 + (maxL + 11) + rm.locals ≤ R.locals)
    (hws : ∀ w ∈ ws, ∀ a' U, s.WarmedH U.vm → w.before a' U = true) (hcode : Cond.codeWith y bytes maxL ret hh ∈ ws) (hinit : ∀ a' U, s.WarmedH U.vm → (Cond.initialized y.cls).before a' U = true) :
    vx_Back l R p e below s sargs y len W9 (PreOf R mc ms Pc) (PostOf Qc mc ms free) (vx_Post XC mc ms free) := by
  intro m meth c A g ig mk a X hg hsize hdg hW hn hp
  have h1 : (headSpec ws rm).pre.before a A.U = true := atoms_intro fun w hw => hws w hw _ _ X.warmed
  have h2 : (Cond.codeWith y bytes maxL ret hh).before a A.U = true := hws _ hcode _ _ X.warmed
  have h3 : (Cond.initialized y.cls).before a A.U = true := hinit _ _ X.warmed
  have h4 : A.cells + (headSpec ws rm).room.cells ≤ R.cells := by rw [show (headSpec ws rm).room.cells = mc from hrc]; exact hp.1
  have h5 : A.slots + (headSpec ws rm).room.slots ≤ R.slots := by rw [show (headSpec ws rm).room.slots = ms from hrs]; exact hp.2.1
  have hPc : Pc a (A.U.calling g mk a) := hblind _ _ _ _ hp.2.2
  obtain ⟨U, Ls, c0, s0⟩ := A
  dsimp only [Pt.U, Pt.locs, Pt.cells, Pt.slots] at h1 h2 h3 h4 h5 X hn hPc ⊢
  obtain ⟨m9, methY, cY, hn9, hmY, hcY, -, hlY, -⟩ := Cond.codeWith_spec h2
  cases Option.some.inj (hn9.symm.trans hn)
  obtain ⟨kY, hkY, -⟩ := className_of_methodNamed hn
  have hinitY : kY.init = .initialized := Cond.initialized_spec (findClass_of_methodNamed hn) hkY h3
  have h : At U g.method c below := by rw [hg]; exact X.here
  have hlocals9 : W9 + (maxL + 11) + (headSpec ws rm).room.locals ≤ R.locals := hlocals
  have happ : (headSpec ws rm).appliesLoose y e.platform (U.calling g mk a) = true :=
    Spec.appliesLoose_calling (g := g) h hdg hn hkY hinitY
      (X.room_calling (g := g) (R' := (headSpec ws rm).room) hsize hmY hcY hframes (by rw [hlY]; omega) h4 h5) h1
  obtain ⟨mid, hmid⟩ := h.above
  have hfr : (U.setTop g).frames = (.java g :: mid) ++ below := by rw [State.frames_setTop' g h.top, hmid]; rfl
  obtain ⟨o, s₂, hsteps, -, hend, hq⟩ := Steps.callFree hM p X.admits X.cas X.clock (acts := []) hfr happ hPc trivial
  have hq' : vx_Q Qc XC mc ms free a (U.calling g mk a) o s₂ := hq
  rw [State.frames_setTop' g h.top] at hend
  obtain ⟨g₀, hg0⟩ := Option.isSome_iff_exists.mp h.top
  obtain ⟨r, hr⟩ := State.topJava?_eq_some.mp hg0
  have hr' : (({ U with heap := s₂.heap, slotsUsed := s₂.slotsUsed } : State).setVm s₂.vm).frames = .java g₀ :: r := hr
  rcases hq' with ⟨hqc, L, hfe, hL⟩ | ⟨q, rfl, E, ce, L, hx, hce, hcv, hcl, hW₂, hsm, hL⟩
  · obtain ⟨⟨v, rfl⟩, hW₂, e2, q2, q3, q4, q5, q6⟩ := id hfe
    have e3 : s₂ = ({ (U.calling g mk a).setFrames s₂.frames with heap := s₂.heap, slotsUsed := s₂.slotsUsed } : State).setVm s₂.vm := by
      have : s₂ = ({ s₂ with vm := (U.calling g mk a).vm } : State).setVm s₂.vm := rfl
      rw [e2] at this
      exact this
    obtain ⟨c₂, i₂, len₂, hc₂, hd₂, hf₂⟩ := hend
    have hW' : U.WarmedH s₂.vm := hW₂
    have hcc : c₂ = c := by
      have h1 : s₂.code? g.method = U.code? g.method := by
        rw [State.code?_eq, State.code?_eq, hW'.alike.method?]
      exact Option.some.inj (hc₂.symm.trans (h1.trans h.code))
    subst hcc
    have hlen : len₂ = len := by rw [hdg] at hd₂; cases hd₂; rfl
    subst hlen
    have hs₂ : s₂ = (({ U with heap := s₂.heap, slotsUsed := s₂.slotsUsed } : State).setVm s₂.vm).setTop { g with pc := g.pc + len₂, stack := v.toList ++ g.stack } := by
      refine e3.trans ?_
      rw [hf₂, State.calling_eq h.top, State.setFrames_setFrames, State.setTop_of_frames _ hr', hr]
      rfl
    have hsame : U.sameButNew ({ U with heap := s₂.heap, slotsUsed := s₂.slotsUsed } : State) L mc ms := by
      refine ⟨?_, q2, q3, q4, q5, q6⟩
      obtain ⟨t, ht, -⟩ := State.frames_cons hr
      show ({ U with heap := s₂.heap, slotsUsed := s₂.slotsUsed } : State) = { U.setFrames U.frames with heap := s₂.heap, slotsUsed := s₂.slotsUsed }
      rw [State.setFrames_self ht]
    subst hg
    refine Or.inl ⟨v, ⟨(({ U with heap := s₂.heap, slotsUsed := s₂.slotsUsed } : State).setVm s₂.vm), Ls ++ L, c0 + mc, s0 + ms⟩,
      ⟨X.admits, X.cas, X.clock, X.frames, X.room, X.hears, X.method, X.code, (X.here.setHeapUsed s₂.heap s₂.slotsUsed).setVm hW'.alike, X.tail, State.WarmedH.trans X.warmed hW', X.limits, X.bytes, X.same.trans (hsame.setVm s.vm)⟩,
      ⟨g, mk, s₂, L, rfl, rfl, hqc, rfl, hL, rfl, rfl⟩, ?_⟩
    show Steps p.tables e below _ ((({ U with heap := s₂.heap, slotsUsed := s₂.slotsUsed } : State).setVm s₂.vm).setTop { g with pc := g.pc + len₂, stack := v.toList ++ g.stack })
    rw [← hs₂]
    exact hsteps
  · obtain ⟨e2, q2, q3, q4, q5, q6⟩ := id hsm
    have e3 : s₂ = ({ (U.calling g mk a).setFrames s₂.frames with heap := s₂.heap, slotsUsed := s₂.slotsUsed } : State).setVm s₂.vm := by
      have : s₂ = ({ s₂ with vm := (U.calling g mk a).vm } : State).setVm s₂.vm := rfl
      rw [e2] at this
      exact this
    have hf₂ : s₂.frames = .throwing q :: .java g :: U.frames.tail := hend
    have hW' : U.WarmedH s₂.vm := hW₂
    have hs₂ : s₂ = ((({ U with heap := s₂.heap, slotsUsed := s₂.slotsUsed } : State).setVm s₂.vm).setTop g).pushFrame (.throwing q) := by
      refine e3.trans ?_
      rw [hf₂, State.calling_eq h.top, State.setFrames_setFrames, State.pushFrame, State.frames_setTop _ hr', State.setTop_of_frames _ hr', State.setFrames_setFrames, hr]
      rfl
    have hsame : U.sameButNew ({ U with heap := s₂.heap, slotsUsed := s₂.slotsUsed } : State) L mc ms := by
      refine ⟨?_, q2, q3, q4, q5, q6⟩
      obtain ⟨t, ht, -⟩ := State.frames_cons hr
      show ({ U with heap := s₂.heap, slotsUsed := s₂.slotsUsed } : State) = { U.setFrames U.frames with heap := s₂.heap, slotsUsed := s₂.slotsUsed }
      rw [State.setFrames_self ht]
    subst hg
    refine Or.inr ⟨q, ⟨(({ U with heap := s₂.heap, slotsUsed := s₂.slotsUsed } : State).setVm s₂.vm), Ls ++ L, c0 + mc, s0 + ms⟩,
      ⟨X.admits, X.cas, X.clock, X.frames, X.room, X.hears, X.method, X.code, (X.here.setHeapUsed s₂.heap s₂.slotsUsed).setVm hW'.alike, X.tail, State.WarmedH.trans X.warmed hW', X.limits, X.bytes, X.same.trans (hsame.setVm s.vm)⟩,
      ⟨g, mk, s₂, L, E, ce, rfl, rfl, hx, hce, hcv, hcl, rfl, hL, rfl, rfl⟩, ?_⟩
    show Steps p.tables e below _ (((({ U with heap := s₂.heap, slotsUsed := s₂.slotsUsed } : State).setVm s₂.vm).setTop g).pushFrame (.throwing q))
    rw [← hs₂]
    exact hsteps
end
variable {p : Program} {l : Launch} {e : Env} {R : Room} {s : State} {m : MethodId} {args : Array Value} {below : List Frame} {meth : Method} {c : Code} {T : State} {H : Heap} {locs : List Loc} {cells slots : Nat}
theorem vx_callVX (X : Stand p l e R s m args below meth c T locs cells slots) (hexec : p.tables.exec = Jvm.exec) {own C : String} {index : Nat} {y : MethodName} {bytes : ByteArray} {maxL : Nat} {ret : Option FieldType} {hh : List (Nat × Nat × Nat × Nat)}
    (hown : s.vm.findClass own = some m.cls) (hlink : (Cond.methodLink own index y).before args s = true) (hinst : (Cond.instanceMethod y).before args s = true) (hsel : (Cond.selects C y y).before args s = true)
    (hcode : (Cond.codeWith y bytes maxL ret hh).before args s = true) (hy : y.cls ≠ "java/lang/invoke/MethodHandle" ∧ y.cls ≠ "java/lang/invoke/VarHandle")
    {W9 : Nat} {Pre : Pt → Array Value → Prop} {Post : Pt → Array Value → Option Value → Pt → Prop} {PostX : Pt → Array Value → Addr → Pt → Prop} (hK : vx_Back l R p e below s args y 3 W9 Pre Post PostX)
    {b : Addr} {cellB : Cell} (hcell : T.heap[b]? = some cellB) (hobj : cellB.vm.isStatics = false) (hcls : s.vm.findClass C = some cellB.cls)
    {g : JFrame} (hg : g.method = m) (hsize : g.locals.size = c.maxLocals) {argsL rest : List Value} (hlen : ∀ sig, parseMethodDescriptor y.desc = some sig → argsL.length = sig.parameters.length)
    (hstack : g.stack = argsL.reverse ++ .ref b :: rest) (hW : 2 * g.monitorRoom + (rest.map fun v => v.category).sum ≤ W9) (hdg : decode c.code g.pc = .ok (.invokevirtual index, 3))
    (hpre : ∀ vm₁, s.WarmedH vm₁ → Pre ⟨T.setVm vm₁, locs, cells, slots⟩ (Value.ref b :: argsL).toArray) :
    (∃ (v : Option Value) (vm₁ : Vm) (B : Pt), s.WarmedH vm₁ ∧ Stand p l e R s m args below meth c B.U B.locs B.cells B.slots ∧ Post ⟨T.setVm vm₁, locs, cells, slots⟩ (Value.ref b :: argsL).toArray v B ∧
      ∀ target, Steps p.tables e below (B.U.setTop { g with pc := g.pc + 3, stack := v.toList ++ rest }) target → Steps p.tables e below (T.setTop g) target) ∨
    (∃ (q : Addr) (vm₁ : Vm) (B : Pt), s.WarmedH vm₁ ∧ Stand p l e R s m args below meth c B.U B.locs B.cells B.slots ∧ PostX ⟨T.setVm vm₁, locs, cells, slots⟩ (Value.ref b :: argsL).toArray q B ∧
      Steps p.tables e below (T.setTop g) ((B.U.setTop { g with stack := rest }).pushFrame (.throwing q))) := by
  obtain ⟨mk, methM, hnamed, hmethM, hstM, habM⟩ := Cond.instanceMethod_spec hinst
  obtain ⟨m8, methM', cM, hn8, hmethM', -, -, -, -, -, -, hsigM⟩ := Cond.codeWith_spec hcode
  cases Option.some.inj (hn8.symm.trans hnamed)
  cases hmethM.symm.trans hmethM'
  obtain ⟨c2, r2, m2, q1, q2, q3, q4, kP, hkP, hkPi⟩ := Cond.selects_spec hsel
  cases hcls.symm.trans q1
  cases (State.methodFound?_of_named hnamed hy).symm.trans q2
  cases hnamed.symm.trans q3
  have hselP : selectMethod e.platform s.vm cellB.cls mk = .method mk := by rw [Launch.admits_selectMethod X.admits]; exact q4
  obtain ⟨vm₁, X₁, hstep₁⟩ := X.invokevirtual hexec hown hlink hnamed hmethM hstM hkP hkPi hy (a := b) (cell := cellB) hcell
    (fun z h => by rw [h] at hobj; cases hobj) hselP hmethM habM hkP hkPi (g := g) hg (argsL := argsL) (rest := rest) (hlen _ hsigM) hstack hdg
  rcases hK m meth c ⟨T.setVm vm₁, locs, cells, slots⟩ { g with stack := rest } (.invokevirtual index) mk (Value.ref b :: argsL).toArray X₁ hg hsize hdg hW (X₁.named hnamed) (hpre vm₁ X₁.warmed) with ⟨v, B, X', hpost, hsteps⟩ | ⟨q, B, X', hpost, hsteps⟩
  · exact Or.inl ⟨v, vm₁, B, X₁.warmed, X', hpost, fun target h => hstep₁ _ fun acts => by rw [doInvoke_state]; exact hsteps.trans h⟩
  · exact Or.inr ⟨q, vm₁, B, X₁.warmed, X', hpost, hstep₁ _ fun acts => by rw [doInvoke_state]; exact hsteps⟩
theorem vx_callSX (X : Stand p l e R s m args below meth c T locs cells slots) (hexec : p.tables.exec = Jvm.exec) {own : String} {index : Nat} {y : MethodName} {bytes : ByteArray} {maxL : Nat} {ret : Option FieldType} {hh : List (Nat × Nat × Nat × Nat)}
    (hown : s.vm.findClass own = some m.cls) (hlink : (Cond.methodLink own index y).before args s = true) (hstat : (Cond.static y).before args s = true) (hinit : (Cond.initialized y.cls).before args s = true)
    (hcode : (Cond.codeWith y bytes maxL ret hh).before args s = true) (hy : y.cls ≠ "java/lang/invoke/MethodHandle" ∧ y.cls ≠ "java/lang/invoke/VarHandle")
    {W9 : Nat} {Pre : Pt → Array Value → Prop} {Post : Pt → Array Value → Option Value → Pt → Prop} {PostX : Pt → Array Value → Addr → Pt → Prop} (hK : vx_Back l R p e below s args y 3 W9 Pre Post PostX)
    {g : JFrame} (hg : g.method = m) (hsize : g.locals.size = c.maxLocals) {argsL rest : List Value} (hlen : ∀ sig, parseMethodDescriptor y.desc = some sig → argsL.length = sig.parameters.length)
    (hstack : g.stack = argsL.reverse ++ rest) (hW : 2 * g.monitorRoom + (rest.map fun v => v.category).sum ≤ W9) (hdg : decode c.code g.pc = .ok (.invokestatic index, 3))
    (hpre : ∀ vm₁, s.WarmedH vm₁ → Pre ⟨T.setVm vm₁, locs, cells, slots⟩ argsL.toArray) :
    (∃ (v : Option Value) (vm₁ : Vm) (B : Pt), s.WarmedH vm₁ ∧ Stand p l e R s m args below meth c B.U B.locs B.cells B.slots ∧ Post ⟨T.setVm vm₁, locs, cells, slots⟩ argsL.toArray v B ∧
      ∀ target, Steps p.tables e below (B.U.setTop { g with pc := g.pc + 3, stack := v.toList ++ rest }) target → Steps p.tables e below (T.setTop g) target) ∨
    (∃ (q : Addr) (vm₁ : Vm) (B : Pt), s.WarmedH vm₁ ∧ Stand p l e R s m args below meth c B.U B.locs B.cells B.slots ∧ PostX ⟨T.setVm vm₁, locs, cells, slots⟩ argsL.toArray q B ∧
      Steps p.tables e below (T.setTop g) ((B.U.setTop { g with stack := rest }).pushFrame (.throwing q))) := by
  obtain ⟨mk, methM, cM, hnamed, hmethM, -, -, -, -, -, -, hsigM⟩ := Cond.codeWith_spec hcode
  have hstatic : methM.isStatic = true := Cond.static_spec hnamed hmethM hstat
  obtain ⟨kP, hkP, -⟩ := className_of_methodNamed hnamed
  have hinitP : kP.init = .initialized := Cond.initialized_spec (findClass_of_methodNamed hnamed) hkP hinit
  obtain ⟨vm₁, X₁, hstep₁⟩ := X.invokestatic hexec hown hlink hnamed hmethM hstatic hkP hinitP hy (g := g) hg (argsL := argsL) (rest := rest) (hlen _ hsigM) hstack hdg
  rcases hK m meth c ⟨T.setVm vm₁, locs, cells, slots⟩ { g with stack := rest } (.invokestatic index) mk argsL.toArray X₁ hg hsize hdg hW (X₁.named hnamed) (hpre vm₁ X₁.warmed) with ⟨v, B, X', hpost, hsteps⟩ | ⟨q, B, X', hpost, hsteps⟩
  · exact Or.inl ⟨v, vm₁, B, X₁.warmed, X', hpost, fun target h => hstep₁ _ fun acts => by rw [doInvoke_state]; exact hsteps.trans h⟩
  · exact Or.inr ⟨q, vm₁, B, X₁.warmed, X', hpost, hstep₁ _ fun acts => by rw [doInvoke_state]; exact hsteps⟩
theorem vx_callVW (X : Stand p l e R s m args below meth c T locs cells slots) (hexec : p.tables.exec = Jvm.exec) {own C : String} {index : Nat} {y : MethodName} {bytes : ByteArray} {maxL : Nat} {ret : Option FieldType} {hh : List (Nat × Nat × Nat × Nat)}
    (hown : s.vm.findClass own = some m.cls) (hlink : (Cond.methodLink own index y).before args s = true) (hinst : (Cond.instanceMethod y).before args s = true) (hsel : (Cond.selects C y y).before args s = true)
    (hcode : (Cond.codeWith y bytes maxL ret hh).before args s = true) (hy : y.cls ≠ "java/lang/invoke/MethodHandle" ∧ y.cls ≠ "java/lang/invoke/VarHandle")
    {W9 : Nat} {Pre : Pt → Array Value → Prop} {Post : Pt → Array Value → Option Value → Pt → Prop} (hK : Back l R p e below s args y 3 W9 Pre Post)
    {b : Addr} {cellB : Cell} (hcell : T.heap[b]? = some cellB) (hobj : cellB.vm.isStatics = false) (hcls : s.vm.findClass C = some cellB.cls)
    {g : JFrame} (hg : g.method = m) (hsize : g.locals.size = c.maxLocals) {argsL rest : List Value} (hlen : ∀ sig, parseMethodDescriptor y.desc = some sig → argsL.length = sig.parameters.length)
    (hstack : g.stack = argsL.reverse ++ .ref b :: rest) (hW : 2 * g.monitorRoom + (rest.map fun v => v.category).sum ≤ W9) (hdg : decode c.code g.pc = .ok (.invokevirtual index, 3))
    (hpre : ∀ vm₁, s.WarmedH vm₁ → Pre ⟨T.setVm vm₁, locs, cells, slots⟩ (Value.ref b :: argsL).toArray) :
    ∃ (v : Option Value) (vm₁ : Vm) (B : Pt), s.WarmedH vm₁ ∧ Stand p l e R s m args below meth c B.U B.locs B.cells B.slots ∧ Post ⟨T.setVm vm₁, locs, cells, slots⟩ (Value.ref b :: argsL).toArray v B ∧
      ∀ target, Steps p.tables e below (B.U.setTop { g with pc := g.pc + 3, stack := v.toList ++ rest }) target → Steps p.tables e below (T.setTop g) target := by
  obtain ⟨mk, methM, hnamed, hmethM, hstM, habM⟩ := Cond.instanceMethod_spec hinst
  obtain ⟨m8, methM', cM, hn8, hmethM', -, -, -, -, -, -, hsigM⟩ := Cond.codeWith_spec hcode
  cases Option.some.inj (hn8.symm.trans hnamed)
  cases hmethM.symm.trans hmethM'
  obtain ⟨c2, r2, m2, q1, q2, q3, q4, kP, hkP, hkPi⟩ := Cond.selects_spec hsel
  cases hcls.symm.trans q1
  cases (State.methodFound?_of_named hnamed hy).symm.trans q2
  cases hnamed.symm.trans q3
  have hselP : selectMethod e.platform s.vm cellB.cls mk = .method mk := by rw [Launch.admits_selectMethod X.admits]; exact q4
  obtain ⟨vm₁, X₁, hstep₁⟩ := X.invokevirtual hexec hown hlink hnamed hmethM hstM hkP hkPi hy (a := b) (cell := cellB) hcell
    (fun z h => by rw [h] at hobj; cases hobj) hselP hmethM habM hkP hkPi (g := g) hg (argsL := argsL) (rest := rest) (hlen _ hsigM) hstack hdg
  obtain ⟨v, B, X', hpost, hsteps⟩ := hK m meth c ⟨T.setVm vm₁, locs, cells, slots⟩ { g with stack := rest } (.invokevirtual index) mk (Value.ref b :: argsL).toArray X₁ hg hsize hdg hW (X₁.named hnamed) (hpre vm₁ X₁.warmed)
  exact ⟨v, vm₁, B, X₁.warmed, X', hpost, fun target h => hstep₁ _ fun acts => by rw [doInvoke_state]; exact hsteps.trans h⟩
abbrev vx_CVW (R : Room) (s : State) (args : Array Value) (own C : String) (index : Nat) (y : MethodName) (bytes : ByteArray) (maxL : Nat) (ret : Option FieldType) (hh : List (Nat × Nat × Nat × Nat)) (ws : List Cond) (rm : Room) (mc ms n : Nat) : Prop :=
  (rm.cells = mc ∧ rm.slots = ms ∧ rm.frames + 1 ≤ R.frames ∧ 8 + (maxL + 11) + rm.locals ≤ R.locals ∧ (∀ w ∈ ws, ∀ (a' : Array Value) (U : State), s.WarmedH U.vm → w.before a' U = true) ∧ Cond.codeWith y bytes maxL ret hh ∈ ws) ∧
  (Cond.codeWith y bytes maxL ret hh).before args s = true ∧ (Cond.initialized y.cls).before args s = true ∧ (y.cls ≠ "java/lang/invoke/MethodHandle" ∧ y.cls ≠ "java/lang/invoke/VarHandle") ∧
  (∀ sig, parseMethodDescriptor y.desc = some sig → n = sig.parameters.length) ∧ (Cond.methodLink own index y).before args s = true ∧ (Cond.instanceMethod y).before args s = true ∧ (Cond.selects C y y).before args s = true
theorem vx_cwVW {own C : String} {index maxL mc ms : Nat} {y : MethodName} {bytes : ByteArray} {ret : Option FieldType} {hh : List (Nat × Nat × Nat × Nat)} {Ts ws ws' : List Cond} {rm : Room} (n : Nat) (ht : ∀ w ∈ Ts, w.before args s = true) (hT : GoodIn Ts (wsV own index C y ws)) (hw : ws = Cond.codeWith y bytes maxL ret hh :: ws') (hrc : rm.cells = mc) (hrs : rm.slots = ms)
    (hd : y.cls = C ∧ y.cls ≠ "java/lang/invoke/MethodHandle" ∧ y.cls ≠ "java/lang/invoke/VarHandle" ∧ (parseMethodDescriptor y.desc).map (fun d => d.parameters.length) = some n) (hR : rm.frames + 1 ≤ R.frames ∧ 8 + (maxL + 11) + rm.locals ≤ R.locals) :
    vx_CVW R s args own C index y bytes maxL ret hh ws rm mc ms n := by
  obtain ⟨hC, hd⟩ := hd
  subst hC
  have ok : ∀ w ∈ wsV own index y.cls y ws, w.before args s = true := fun w h => ht w (hT w h).1
  have hG : GoodIn Ts ws := fun w h => hT w (by unfold wsV; exact List.mem_append_right _ h)
  have hc : Cond.codeWith y bytes maxL ret hh ∈ ws := by rw [hw]; exact List.mem_cons_self
  refine ⟨⟨hrc, hrs, hR.1, hR.2, pay_in ht hG, hc⟩, ht _ (hG _ hc).1, ok _ (by simp [wsV]), ⟨hd.1, hd.2.1⟩, fun sig h => ?_, ok _ (by simp [wsV]), ok _ (by simp [wsV]), ok _ (by simp [wsV])⟩
  have h2 := hd.2.2
  rw [h] at h2
  exact (Option.some.inj h2).symm
theorem vx_runVW {y : MethodName} {bytes cc : ByteArray} {maxL nL mc ms n index : Nat} {ret : Option FieldType} {hh : List (Nat × Nat × Nat × Nat)} {ws : List Cond} {rm : Room} {Pc : Array Value → State → Prop} {Qc : Array Value → State → Outcome → State → Prop} {free : Addr → Prop} {Ts : List Cond} {own C : String} {b : Addr} {As rest : List Value} {g : JFrame}
    (S : CallFix p m c cc nL s args Ts own) (hM : Met l y ws rm Pc Qc mc ms free) (cw : vx_CVW R s args own C index y bytes maxL ret hh ws rm mc ms n) (hp : PreV s H C b Pc As)
    (hg : g.method = m) (hn : As.length = n) (hsize : g.locals.size = nL) (hstack : g.stack = As.reverse ++ .ref b :: rest) (hW : 2 * g.monitorRoom + (rest.map fun v => v.category).sum ≤ 8) (hdg : decode cc g.pc = .ok (.invokevirtual index, 3)) (hf : cells + mc ≤ R.cells ∧ slots + ms ≤ R.slots) :
    va_Run p l e R s m args below meth c H locs cells slots mc ms g rest (Qc (Value.ref b :: As).toArray) free := by
  obtain ⟨⟨hrc, hrs, hfr, hlo, hws, hcw⟩, hcode, hini, hy, hlen, hl, hin, hse⟩ := cw
  have hK : Back l R p e below s args y 3 8 (PreOf R mc ms Pc) (PostOf Qc mc ms free) := va_backW (hh := hh) (bytes := bytes) (maxL := maxL) (ret := ret) hM hp.1 hrc hrs hfr hlo hws hcw (fun a' U hW => word_at hW (Or.inl (by first | rfl | simp [Cond.onTables, Cond.keeps, Cond.steady])) hini)
  obtain ⟨hx, hb, hml, ho, -⟩ := S
  obtain ⟨-, ⟨cellB, hcB, hoB, hclB⟩, hPc⟩ := hp
  intro T hT X
  obtain ⟨v, vm₁, ⟨U', l2, c2, s2⟩, hW₁, X', ⟨g', mk, t, L, e1, e2, hq, h1, hL, h2, h3⟩, st⟩ := vx_callVW X hx (C := C) (hh := hh) (bytes := bytes) (maxL := maxL) (ret := ret) ho hl hin hse hcode hy hK (by rw [hT]; exact hcB) hoB hclB hg (hsize.trans hml.symm) (argsL := As) (rest := rest) (fun sig h => hn.trans (hlen sig h)) hstack hW (by rw [hb]; exact hdg)
    (fun vm₁ hW₁ => ⟨hf.1, hf.2, hPc (T.setVm vm₁) hT hW₁⟩)
  dsimp only [Pt.U, Pt.locs, Pt.cells, Pt.slots] at X' e1 e2 h1 h2 h3 st
  subst h1; subst h2; subst h3
  exact ⟨v, (T.setVm vm₁).calling g' mk (Value.ref b :: As).toArray, t, U', L, hT, X', hL, e1, e2, hq, st⟩
section
variable {y : MethodName} {bytes cc : ByteArray} {maxL nL mc ms n index : Nat} {ret : Option FieldType} {ws : List Cond} {rm : Room} {Pc : Array Value → State → Prop} {Qc : Array Value → State → Outcome → State → Prop} {XC : String → State → State → Prop} {free : Addr → Prop} {Ts : List Cond} {own C : String} {b : Addr} {As rest : List Value} {g : JFrame}
theorem vx_runVX {hh : List (Nat × Nat × Nat × Nat)} (S : CallFix p m c cc nL s args Ts own) (hM : vx_Met l y ws rm Pc Qc XC mc ms free) (cw : vx_CVW R s args own C index y bytes maxL ret hh ws rm mc ms n) (hp : PreV s H C b Pc As)
    (hg : g.method = m) (hn : As.length = n) (hsize : g.locals.size = nL) (hstack : g.stack = As.reverse ++ .ref b :: rest) (hW : 2 * g.monitorRoom + (rest.map fun v => v.category).sum ≤ 8) (hdg : decode cc g.pc = .ok (.invokevirtual index, 3)) (hf : cells + mc ≤ R.cells ∧ slots + ms ≤ R.slots) :
    vx_Run p l e R s m args below meth c H locs cells slots mc ms g rest (Qc (Value.ref b :: As).toArray) XC free := by
  obtain ⟨⟨hrc, hrs, hfr, hlo, hws, hcw⟩, hcode, hini, hy, hlen, hl, hin, hse⟩ := cw
  have hK : vx_Back l R p e below s args y 3 8 (PreOf R mc ms Pc) (PostOf Qc mc ms free) (vx_Post XC mc ms free) := vx_backW (hh := hh) (bytes := bytes) (maxL := maxL) (ret := ret) hM hp.1 hrc hrs hfr hlo hws hcw (fun a' U hW => word_at hW (Or.inl (by first | rfl | simp [Cond.onTables, Cond.keeps, Cond.steady])) hini)
  obtain ⟨hx, hb, hml, ho, -⟩ := S
  obtain ⟨-, ⟨cellB, hcB, hoB, hclB⟩, hPc⟩ := hp
  intro T hT X
  rcases vx_callVX X hx (C := C) (hh := hh) (bytes := bytes) (maxL := maxL) (ret := ret) ho hl hin hse hcode hy hK (by rw [hT]; exact hcB) hoB hclB hg (hsize.trans hml.symm) (argsL := As) (rest := rest) (fun sig h => hn.trans (hlen sig h)) hstack hW (by rw [hb]; exact hdg)
    (fun vm₁ hW₁ => ⟨hf.1, hf.2, hPc (T.setVm vm₁) hT hW₁⟩) with ⟨v, vm₁, ⟨U', l2, c2, s2⟩, hW₁, X', ⟨g', mk, t, L, e1, e2, hq, h1, hL, h2, h3⟩, st⟩ | ⟨q, vm₁, ⟨U', l2, c2, s2⟩, hW₁, X', ⟨g', mk, t, L, E, ce, e1, e2, hq, hce, hcv, hcl, h1, hL, h2, h3⟩, st⟩
  · dsimp only [Pt.U, Pt.locs, Pt.cells, Pt.slots] at X' e1 e2 h1 h2 h3 st
    subst h1; subst h2; subst h3
    exact Or.inl ⟨v, (T.setVm vm₁).calling g' mk (Value.ref b :: As).toArray, t, U', L, hT, X', hL, e1, e2, hq, st⟩
  · dsimp only [Pt.U, Pt.locs, Pt.cells, Pt.slots] at X' e1 e2 h1 h2 h3 st hcl
    subst h1; subst h2; subst h3
    exact Or.inr ⟨q, (T.setVm vm₁).calling g' mk (Value.ref b :: As).toArray, t, U', L, E, ce, hT, X', hL, e1, e2, hq, hce, hcv, vx_cls hW₁ hcl, st⟩
theorem vx_runSX {hh : List (Nat × Nat × Nat × Nat)} (S : CallFix p m c cc nL s args Ts own) (hM : vx_Met l y ws rm Pc Qc XC mc ms free) (cw : vx_CSW R s args own index y bytes maxL ret hh ws rm mc ms n) (hp : PreS s H Pc As)
    (hg : g.method = m) (hn : As.length = n) (hsize : g.locals.size = nL) (hstack : g.stack = As.reverse ++ rest) (hW : 2 * g.monitorRoom + (rest.map fun v => v.category).sum ≤ 8) (hdg : decode cc g.pc = .ok (.invokestatic index, 3)) (hf : cells + mc ≤ R.cells ∧ slots + ms ≤ R.slots) :
    vx_Run p l e R s m args below meth c H locs cells slots mc ms g rest (Qc As.toArray) XC free := by
  obtain ⟨⟨hrc, hrs, hfr, hlo, hws, hcw⟩, hcode, hini, hy, hlen, hl, hstt⟩ := cw
  have hK : vx_Back l R p e below s args y 3 8 (PreOf R mc ms Pc) (PostOf Qc mc ms free) (vx_Post XC mc ms free) := vx_backW (hh := hh) (bytes := bytes) (maxL := maxL) (ret := ret) hM hp.1 hrc hrs hfr hlo hws hcw (fun a' U hW => word_at hW (Or.inl (by first | rfl | simp [Cond.onTables, Cond.keeps, Cond.steady])) hini)
  obtain ⟨hx, hb, hml, ho, -⟩ := S
  intro T hT X
  rcases vx_callSX X hx (hh := hh) (bytes := bytes) (maxL := maxL) (ret := ret) ho hl hstt hini hcode hy hK hg (hsize.trans hml.symm) (argsL := As) (rest := rest) (fun sig h => hn.trans (hlen sig h)) hstack hW (by rw [hb]; exact hdg)
    (fun vm₁ hW₁ => ⟨hf.1, hf.2, hp.2 (T.setVm vm₁) hT hW₁⟩) with ⟨v, vm₁, ⟨U', l2, c2, s2⟩, hW₁, X', ⟨g', mk, t, L, e1, e2, hq, h1, hL, h2, h3⟩, st⟩ | ⟨q, vm₁, ⟨U', l2, c2, s2⟩, hW₁, X', ⟨g', mk, t, L, E, ce, e1, e2, hq, hce, hcv, hcl, h1, hL, h2, h3⟩, st⟩
  · dsimp only [Pt.U, Pt.locs, Pt.cells, Pt.slots] at X' e1 e2 h1 h2 h3 st
    subst h1; subst h2; subst h3
    exact Or.inl ⟨v, (T.setVm vm₁).calling g' mk As.toArray, t, U', L, hT, X', hL, e1, e2, hq, st⟩
  · dsimp only [Pt.U, Pt.locs, Pt.cells, Pt.slots] at X' e1 e2 h1 h2 h3 st hcl
    subst h1; subst h2; subst h3
    exact Or.inr ⟨q, (T.setVm vm₁).calling g' mk As.toArray, t, U', L, E, ce, hT, X', hL, e1, e2, hq, hce, hcv, vx_cls hW₁ hcl, st⟩
end
end VXH
theorem vx_ofWH {l : Launch} {y : MethodName} {ws ws' : List Cond} {rm : Room} {Pc : Array Value → State → Prop} {Qc : Array Value → State → Outcome → State → Prop} {XC : String → State → State → Prop} {mc ms : Nat} {free : Addr → Prop} {cc : ByteArray} {maxL : Nat} {ret : Option FieldType} {hh : List (Nat × Nat × Nat × Nat)}
    (hy : plainName y.cls = true) (hw : ws = Cond.codeWith y cc maxL ret hh :: ws')
    (body : ∀ p e s m args below meth c s₁, BodyLoose p l y (headSpec ws rm) cc maxL ret e s m args below meth c s₁ → c.maxLocals = maxL → Pc args s →
      W p l e (headSpec ws rm).room s m args below meth c s.heap [] 0 0 (vx_MQ below Qc XC args s mc ms free) (entryFrame m args maxL)) : vx_Met l y ws rm Pc Qc XC mc ms free := by
  refine MetFree.of_bodyS (code := cc) (maxLocals := maxL) (ret := ret) hy ?_ ?_
  · intro args s m h hn
    obtain ⟨m9, meth, c, hn9, h1, h2, h3, h4, -, h5, h6, -⟩ := Cond.codeWith_spec (atoms_spec (ws := ws) h _ (by rw [hw]; exact List.mem_cons_self))
    cases hn.symm.trans hn9
    exact ⟨meth, c, h1, h2, h3, h4, h5, h6⟩
  · intro p e s m args below meth c s₁ B hml hP _
    have hh0 : s₁.heap = s.heap := by rw [B.state]; rfl
    obtain ⟨t, a1, o, b1, b2, b3⟩ := body p e s m args below meth c s₁ B hml hP s₁ hh0 (Stand.of_body B)
    exact ⟨t, o, a1, b1, b2, b3⟩
/-! ===== END ===== -/
/-! ===== BEGIN what the machine throws by itself, no traces kept ===== -/
section VXM
set_option maxHeartbeats 1000000 in
/-- the machine throws cls with the message text, no traces kept: from its note over the frame g to 'throwing' over the same frame (follows the proofs of Stand.vmThrowsMessage, Shelf/KitTracedVmS.lean, and Stand.throwsMessageColdBareV, StandMessageColdV.lean, without the step out of the frame) -/
theorem vx_vmAt {p : Program} {l : Launch} {e : Env} {R : Room} {s : State} {m₀ : MethodId} {args : Array Value} {below : List Frame} {meth : Method} {c : Code} {W : State} {locs : List Loc} {cells slots : Nat}
    (X : Stand p l e R s m₀ args below meth c W locs cells slots) (hexec : p.tables.exec = Jvm.exec) (htr : e.platform.stackTraces = false) {cls : String} {names : List String} {text : String}
    (hcls : Bundle.fit cls = true) (hnames : ∀ n ∈ names, Bundle.fit n = true) (hsoe : (cls == "java/lang/StackOverflowError") = false) (hoom : (cls == "java/lang/OutOfMemoryError") = false)
    (h : ∀ a ∈ Bundle.messageArmAtoms cls names, a.before args s = true)
    (hlocs : ∀ x ∈ locs, ∀ cell, s.heap[x.base]? = some cell → cell.vm.isStatics = false)
    (htext : (text == notModelled) = false) (hlimit : ¬ (stringBytes (stringToUtf16 text)).size > e.platform.arrayLengthLimit) (hheap : ¬ (stringBytes (stringToUtf16 text)).size * componentBytes .byte > e.platform.maxHeapBytes)
    {g : JFrame} (hg : g.method = m₀) (hsize : g.locals.size = c.maxLocals)
    (hRframes : names.length + 4 < R.frames) (hRlocals : 2 * g.monitorRoom + (g.stack.map fun v => v.category).sum + 10240 ≤ R.locals) (hshort : 13 * names.length + 55 ≤ 10240)
    (hRcells : cells + 3 ≤ R.cells) (hRslots : slots + ((stringBytes (stringToUtf16 text)).size + 4 + 6) ≤ R.slots) (hlocks : meth.locks = false) :
    ∃ (S : State) (q : Addr) (ce : Cell), (∀ target, Steps p.tables e below ((S.setTop g).pushFrame (.throwing q)) target → Steps p.tables e below ((W.setTop g).pushFrame (.throwNew cls (some text) none)) target) ∧
      Stand p l e R s m₀ args below meth c S locs (cells + 3) (slots + ((stringBytes (stringToUtf16 text)).size + 4 + 6)) ∧ S.heap[q]? = some ce ∧ s.vm.findClass cls = some ce.cls ∧ ce.vm = .none := by
  have howns : e.platform.frameOwnsMonitors = true := by rw [X.admits.platform]
  have hfin : e.platform.finalization = false := by rw [X.admits.platform]
  have hpl : e.platform.magicAccessors = ({} : Platform).magicAccessors := by rw [X.admits.platform]
  have a : ∀ x, x ∈ Bundle.messageArmAtoms cls names → x.holds args s none s [] = true := fun x hx => h x hx
  obtain ⟨T, Z0, L, -, Y⟩ := ThrowableC.of_atoms (args := args) howns hfin hpl (fun x hx => h x (by simp [Bundle.messageArmAtoms, hx]))
  obtain ⟨Z, M, LZ, LM, hnZ⟩ := Init0T.ofS_atoms (args := args) hpl L Y (fun x hx => h x (by simp [Bundle.messageArmAtoms, hx]))
  obtain ⟨P1, Ps, hlen, L1, hL, hP1m, hlink1, hlink⟩ := Bundle.chainS (args := args) hpl hnZ names cls hcls hnames (fun x hx => h x (by simp [Bundle.messageArmAtoms, hx]))
  obtain ⟨Zs, LZs, hn4, hfitv, hfitc⟩ := StringT.of_atoms (args := args) (fun x hx => h x (by simp [Bundle.messageArmAtoms, hx]))
  have hfound : s.vm.findClass cls = some P1.m.cls := findClass_of_methodNamed hP1m
  obtain ⟨c1, kX, hc1, hk, hord, -, -, hn6⟩ := Cond.instantiable_spec (a (.instantiable cls 6) (by simp [Bundle.messageArmAtoms]))
  cases Option.some.inj (hc1.symm.trans hfound)
  have hinit := Cond.initialized_spec hfound hk (a (.initialized cls) (by simp [Bundle.messageArmAtoms]))
  have hctor : kX.findMethod "<init>" "(Ljava/lang/String;)V" = some P1.m.idx := findMethod_of_methodNamed hP1m hk
  have hsel0 : selectMethod e.platform s.vm P1.m.cls T.fill0 = .method T.fill0 := by
    obtain ⟨c2, r2, m2, q1, q2, q3, q4, -⟩ := Cond.selects_spec (a (.selects cls Bundle.tFill0 Bundle.tFill0) (by simp [Bundle.messageArmAtoms]))
    cases Option.some.inj (q1.symm.trans hfound)
    cases Option.some.inj (q2.symm.trans (State.methodFound?_of_named Y.fill0 (by decide)))
    cases Option.some.inj (q3.symm.trans Y.fill0)
    rw [Launch.admits_selectMethod X.admits]; exact q4
  have hselF : selectMethod e.platform s.vm P1.m.cls T.fill = .method T.fill := by
    obtain ⟨c2, r2, m2, q1, q2, q3, q4, -⟩ := Cond.selects_spec (a (.selects cls Bundle.tFill Bundle.tFill) (by simp [Bundle.messageArmAtoms]))
    cases Option.some.inj (q1.symm.trans hfound)
    cases Option.some.inj (q2.symm.trans (State.methodFound?_of_named Y.fill (by decide)))
    cases Option.some.inj (q3.symm.trans Y.fill)
    rw [Launch.admits_selectMethod X.admits]; exact q4
  obtain ⟨cellS0, hcS0, hiss⟩ := Y.statics
  obtain ⟨u0, hu0⟩ := Cond.staticRefV Y.unassigned L.unassignedStatic L.statics hcS0 hiss (a (.isRef (.static Bundle.tN "UNASSIGNED_STACK" Bundle.steD)) (by simp [Bundle.messageArmAtoms]))
  obtain ⟨sen, hsen⟩ := Cond.staticRefV Y.sentinel L.sentinelStatic L.statics hcS0 hiss (a (.isRef (.static Bundle.tN "SUPPRESSED_SENTINEL" Bundle.listD)) (by simp [Bundle.messageArmAtoms]))
  obtain ⟨ci198, i198, fB, hk198, hg198, ha198, hsB, -, hnB, htB, hffB⟩ := Cond.ownField (t := .object "java/lang/Object") Y.found L.cls (by decide +kernel) (a (.fieldLink Bundle.tN 198 Bundle.tN "backtrace" "Ljava/lang/Object;") (by simp [Bundle.messageArmAtoms])) (a (.lays Bundle.tN Bundle.tN "backtrace" "Ljava/lang/Object;") (by simp [Bundle.messageArmAtoms])) e.platform hpl
  obtain ⟨cellS, hcS', heS, -, hkeep⟩ := X.same.2.2.2.2.2 T.aS cellS0 hcS0
  have hcellS : W.heap[T.aS]? = some cellS := hcS'
  have hout' : ∀ i, (⟨T.aS, i⟩ : Loc) ∉ locs := fun i hmem => by
    have := hlocs _ hmem cellS0 hcS0
    rw [hiss] at this; cases this
  have hknownS : cellS.vm ≠ .unknown := by
    rw [heS]; intro hu
    rw [show cellS0.vm = .unknown from hu] at hiss
    cases hiss
  have hvU : cellS.slots[T.fUnassigned.slot]? = some u0.v := by rw [hkeep _ (hout' _)]; exact hu0
  have hvSen : cellS.slots[T.fSentinel.slot]? = some sen.v := by rw [hkeep _ (hout' _)]; exact hsen
  obtain ⟨iM, hffM⟩ := Y.msg
  obtain ⟨tyC, dC, hdC, hdnC⟩ := Cond.laysAt hfound hk Y.cause (a (.lays cls Bundle.tN "cause" "Ljava/lang/Throwable;") (by simp [Bundle.messageArmAtoms]))
  obtain ⟨tyS, dS, hdS, hdnS⟩ := Cond.laysAt hfound hk Y.stack (a (.lays cls Bundle.tN "stackTrace" Bundle.steD) (by simp [Bundle.messageArmAtoms]))
  obtain ⟨tyP, dP, hdP, hdnP⟩ := Cond.laysAt hfound hk Y.supp (a (.lays cls Bundle.tN "suppressedExceptions" Bundle.listD) (by simp [Bundle.messageArmAtoms]))
  obtain ⟨tyM, dM, hdM, hdnM⟩ := Cond.laysAt hfound hk hffM (a (.lays cls Bundle.tN "detailMessage" "Ljava/lang/String;") (by simp [Bundle.messageArmAtoms]))
  obtain ⟨tyB, dB, hdB, hdnB⟩ := Cond.laysAt hfound hk hffB (a (.lays cls Bundle.tN "backtrace" "Ljava/lang/Object;") (by simp [Bundle.messageArmAtoms]))
  have bC := Cond.laysApart hdB hdC hdnB hdnC (by rw [hnB, Y.causeName]; decide)
  have bS := Cond.laysApart hdB hdS hdnB hdnS (by rw [hnB, Y.stackName]; decide)
  have bP := Cond.laysApart hdB hdP hdnB hdnP (by rw [hnB, Y.suppName]; decide)
  have hbk : ((preparedCellV T.toThrowableT (freshCell P1.m.cls kX) (W.heap.size + 2) u0 sen).withEntry W.cur).slots[fB.slot]? = some .null := by
    have := fresh_default (c := P1.m.cls) tyB
    rw [htB] at this
    simpa [preparedCellV, Cell.setSlot, Cell.withEntry, Array.getElem?_setIfInBounds, bC, bS, bP, bC.symm, bS.symm, bP.symm, defaultValue] using this
  have tkC := Takes.of_laid (v := .ref (W.heap.size + 2)) hk hord tyC (by rw [Y.causeType]; rfl)
  have tkS := Takes.of_laid (v := u0.v) hk hord tyS (by rw [Y.stackType]; exact fits_refV_array _ u0)
  have tkP := Takes.of_laid (v := sen.v) hk hord tyP (by rw [Y.suppType]; exact fits_refV_object _ sen)
  have tkM := Takes.of_laid (v := .ref (W.heap.size + 1)) hk hord tyM (by rw [Y.msgType]; rfl)
  have hskip : SkipFacts T e.platform s (fun u => u) u0 ((preparedCellV T.toThrowableT (freshCell P1.m.cls kX) (W.heap.size + 2) u0 sen).withEntry W.cur) := ⟨{ ci198 := ci198, i198 := i198, fBack := fB }, ⟨hk198, hg198, ha198, hsB⟩, hbk, fun _ _ => rfl⟩
  have h0 : At W g.method c below := by rw [hg]; exact X.here
  obtain ⟨hbeyond, hfreeW⟩ := X.vmMayThrow hsize (.throwNew cls (some text) none) (fun f hf => by cases hf) rfl hRlocals
  have hfr' : W.frames.length + Ps.length + 4 < (e.platform.stackLimits W.me).1 := by have := X.framesAbove hRframes; omega
  have hwd' : (stackUse (.java g :: W.frames.tail)).2 + 13 * Ps.length + 55 ≤ (e.platform.stackLimits W.me).2 := by have := X.stackAbove hsize (K := 13 * Ps.length + 55) (by omega); omega
  have hslots : W.slotsUsed + (stringBytes (stringToUtf16 text)).size + Zs.kS.instanceTypes.size + kX.instanceTypes.size ≤ e.platform.maxSlots := by
    have := X.slotsAbove hRslots
    rw [hn4, hn6]
    omega
  obtain ⟨vm', hW', st⟩ := Steps.vmThrowsMessageColdByV p (s₀ := s) (S := W) (g := g) h0 hexec T L Z LZ M LM X.warmed (t := W.cur) rfl Zs LZs P1 L1 Ps hL hlink1 hlink hsoe hoom hfound hk hinit hord hctor
    (Launch.admits_hotImplicitExceptions X.admits) hbeyond hfreeW htext hlimit hheap (X.cellsAbove hRcells) hslots (hfitv _) (hfitc _)
    (Nn := fun u => u) heapOnly_id (fun _ _ => rfl) (fun _ => rfl) (fun u x y => setCell_twice _ _ _ _) (fun _ => Nat.le_refl _) (cN := ((preparedCellV T.toThrowableT (freshCell P1.m.cls kX) (W.heap.size + 2) u0 sen).withEntry W.cur))
    hsel0 hcellS hknownS hvU tkS (fun _ hu => hu) (fun _ hu => hu) rfl rfl rfl (by simp [preparedCellV, Cell.setSlot, Cell.withEntry]) hskip (fun _ _ hA hW _ hroom _ hrest => L.nativeOff p htr hA hW hroom hrest) hselF hvSen tkC tkP tkM Y.objLocals rfl hfr' hwd'
  rw [plainBareV_eq T.toThrowableT (W.heap.size + 2) u0 sen (.ref (W.heap.size + 1)) W.cur rfl rfl] at st
  obtain ⟨-, -, w3, w4, -, -, -⟩ := withThrown_facts e.platform W Zs text P1.m.cls kX
  have X3 := ((X.pushed (bytesOf Zs.cB (stringToUtf16 text))).pushed (stringAt Zs.cS Zs.kS Zs.fv Zs.fc (stringToUtf16 text) W.heap.size)).pushed (freshCell P1.m.cls kX)
  rw [← withString_eq] at X3
  have X4 := X3.noted hW'
  have ha : (W.heap.size + 2) < ((withThrown W Zs text P1.m.cls kX).setVm vm').heap.size := by show _ < (withThrown W Zs text P1.m.cls kX).heap.size; rw [w3]; omega
  have hcell : ((withThrown W Zs text P1.m.cls kX).setVm vm').heap[(W.heap.size + 2)]? = some (freshCell P1.m.cls kX) := w4
  have X5 := ((((X4.stored hcell T.fCause.slot (.ref (W.heap.size + 2))).storedAgain ha T.fStack.slot u0.v).storedAgain ha T.fSupp.slot sen.v).storedAgain ha T.fStack.slot u0.v).storedAgain ha T.fMsg.slot (.ref (W.heap.size + 1))
  obtain ⟨g₁, hfrM⟩ := X5.frames_eq
  have hU : ((((withThrown W Zs text P1.m.cls kX).setVm vm').setCell (W.heap.size + 2) (plainBareV T.toThrowableT (freshCell P1.m.cls kX) (W.heap.size + 2) u0 sen (.ref (W.heap.size + 1)))).setTop g).pushFrame (.throwing (W.heap.size + 2)) = (((withThrown W Zs text P1.m.cls kX).setVm vm').setCell (W.heap.size + 2) (plainBareV T.toThrowableT (freshCell P1.m.cls kX) (W.heap.size + 2) u0 sen (.ref (W.heap.size + 1)))).setFrames (.throwing (W.heap.size + 2) :: .java g :: below) := by
    rw [State.pushFrame, State.frames_setTop _ hfrM, State.setTop_of_frames _ hfrM, State.setFrames_setFrames]
  have b1 : (bytesOf Zs.cB (stringToUtf16 text)).slots.size = (stringBytes (stringToUtf16 text)).size := by
    rw [(Cell.writeAll_facts _ _).2.2]; simp [bytes0]
  have b2 : (stringAt Zs.cS Zs.kS Zs.fv Zs.fc (stringToUtf16 text) W.heap.size).slots.size = 4 := by simp [string0, Cell.setSlot, hn4]
  have b3 : (freshCell P1.m.cls kX).slots.size = 6 := by simp [hn6]
  rw [b1, b2, b3] at X5
  have e9 : slots + (stringBytes (stringToUtf16 text)).size + 4 + 6 = slots + ((stringBytes (stringToUtf16 text)).size + 4 + 6) := by omega
  rw [e9] at X5
  simp only [List.append_assoc, List.cons_append, List.nil_append] at X5
  refine ⟨((withThrown W Zs text P1.m.cls kX).setVm vm').setCell (W.heap.size + 2) (plainBareV T.toThrowableT (freshCell P1.m.cls kX) (W.heap.size + 2) u0 sen (.ref (W.heap.size + 1))), W.heap.size + 2, _, fun target ht => st _ (by rw [X.tail, ← hU]; exact ht),
    X5.forget (fun y hy => ?_), heapAt_setCell_self _ ha, hfound, rfl⟩
  simp only [List.mem_cons, List.not_mem_nil, or_false] at hy
  have hge : s.heap.size ≤ W.heap.size := X.same.2.1
  rcases hy with rfl | rfl | rfl | rfl | rfl <;> exact Nat.le_trans hge (Nat.le_add_right _ 2)
set_option maxHeartbeats 1000000 in
/-- the machine throws NullPointerException, no traces kept: from its note over the frame g to 'throwing' over the same frame (follows the proof of Stand.vmThrowsNpe, Shelf42/KT2.lean; throwsNpeColdBareVAt, Shelf42/NT91.lean, called) -/
theorem vx_npeAt {p : Program} {l : Launch} {e : Env} {R : Room} {s : State} {m₀ : MethodId} {args : Array Value} {below : List Frame} {meth : Method} {c : Code} {W : State} {locs : List Loc} {cells slots : Nat}
    (X : Stand p l e R s m₀ args below meth c W locs cells slots) (hexec : p.tables.exec = Jvm.exec) (htr : e.platform.stackTraces = false) {n : Nat}
    (h : ∀ a ∈ Bundle.npeArmAtoms n, a.before args s = true)
    (hlocs : ∀ x ∈ locs, ∀ cell, s.heap[x.base]? = some cell → cell.vm.isStatics = false)
    {g : JFrame} (hg : g.method = m₀) (hsize : g.locals.size = c.maxLocals)
    (hRframes : 7 < R.frames) (hRlocals : 2 * g.monitorRoom + (g.stack.map fun v => v.category).sum + 10240 ≤ R.locals)
    (hRcells : cells + 1 ≤ R.cells) (hRslots : slots + n ≤ R.slots) (hlocks : meth.locks = false) :
    ∃ (S : State) (q : Addr) (ce : Cell), (∀ target, Steps p.tables e below ((S.setTop g).pushFrame (.throwing q)) target → Steps p.tables e below ((W.setTop g).pushFrame (.throwNew "java/lang/NullPointerException" none none)) target) ∧
      Stand p l e R s m₀ args below meth c S locs (cells + 1) (slots + n) ∧ S.heap[q]? = some ce ∧ s.vm.findClass "java/lang/NullPointerException" = some ce.cls ∧ ce.vm = .none := by
  have howns : e.platform.frameOwnsMonitors = true := by rw [X.admits.platform]
  have hfin : e.platform.finalization = false := by rw [X.admits.platform]
  have hpl : e.platform.magicAccessors = ({} : Platform).magicAccessors := by rw [X.admits.platform]
  have hpl2 : e.platform.arrayCloneIsPublic = true := by rw [X.admits.platform]
  have a' : ∀ x, x ∈ Bundle.npeArmAtoms n → x.holds args s none s [] = true := fun x hx => h x hx
  obtain ⟨T, Z, L, LZ, Y⟩ := ThrowableC.of_atoms (args := args) howns hfin hpl (fun x hx => h x (by simp [Bundle.npeArmAtoms, hx]))
  obtain ⟨N, LN, hcN, hnNF, hordN, hffS⟩ := NpeC.of_atoms (args := args) hpl hpl2 L Y (fun x hx => h x (by simp [Bundle.npeArmAtoms, hx]))
  obtain ⟨P1, L1, hP1m, hP1s⟩ := PassC.of_atoms (args := args) (s := s) hpl (X := Bundle.nN) (Y := Bundle.rN) (by decide) (by decide) LibCode.NullPointerException.Init0.at_0 LibCode.NullPointerException.Init0.at_1 LibCode.NullPointerException.Init0.at_4 (fun x hx => h x (by simp [Bundle.npeArmAtoms, hx]))
  obtain ⟨PR, LR, hPRm, hPRs⟩ := PassC.of_atoms (args := args) (s := s) hpl (X := Bundle.rN) (Y := Bundle.eN) (by decide) (by decide) LibCode.RuntimeException.Init0.at_0 LibCode.RuntimeException.Init0.at_1 LibCode.RuntimeException.Init0.at_4 (fun x hx => h x (by simp [Bundle.npeArmAtoms, hx]))
  obtain ⟨PE, LEx, hPEm, hPEs⟩ := PassC.of_atoms (args := args) (s := s) hpl (X := Bundle.eN) (Y := Bundle.tN) (by decide) (by decide) LibCode.Exception.Init0.at_0 LibCode.Exception.Init0.at_1 LibCode.Exception.Init0.at_4 (fun x hx => h x (by simp [Bundle.npeArmAtoms, hx]))
  have hfound : s.vm.findClass Bundle.nN = some P1.m.cls := findClass_of_methodNamed hP1m
  have ecls : N.cN = P1.m.cls := Option.some.inj (hcN.symm.trans hfound)
  have hk : s.vm.classes[P1.m.cls]? = some N.kN := by rw [← ecls]; exact LN.cls
  have hinit := Cond.initialized_spec hfound hk (a' (.initialized Bundle.nN) (by simp [Bundle.npeArmAtoms]))
  have hctor : N.kN.findMethod "<init>" "()V" = some P1.m.idx := findMethod_of_methodNamed hP1m hk
  obtain ⟨c1, k1, hc1, hk1, -, -, -, hn⟩ := Cond.instantiable_spec (a' (.instantiable Bundle.nN n) (by simp [Bundle.npeArmAtoms]))
  cases Option.some.inj (hc1.symm.trans hfound)
  cases Option.some.inj (hk1.symm.trans hk)
  have hfsz : (freshCell P1.m.cls N.kN).slots.size = n := by simp [hn]
  have hlink1 : P1.sup = PR.m := Option.some.inj (hP1s.symm.trans hPRm)
  have hlinkR : PR.sup = PE.m := Option.some.inj (hPRs.symm.trans hPEm)
  have hlinkE : PE.sup = Z.m T.toThrowableT := Option.some.inj (hPEs.symm.trans Y.init0)
  have hLs : ∀ P, P ∈ [PR, PE] → P.Links0 e.platform s := fun P hP => by
    simp only [List.mem_cons, List.not_mem_nil, or_false] at hP
    rcases hP with rfl | rfl
    · exact LR
    · exact LEx
  have hsel0 : selectMethod e.platform s.vm P1.m.cls T.fill0 = .method T.fill0 := by
    obtain ⟨c2, r2, m2, q1, q2, q3, q4, -⟩ := Cond.selects_spec (a' (.selects Bundle.nN Bundle.tFill0 Bundle.tFill0) (by simp [Bundle.npeArmAtoms]))
    cases Option.some.inj (q1.symm.trans hfound)
    cases Option.some.inj (q2.symm.trans (State.methodFound?_of_named Y.fill0 (by decide)))
    cases Option.some.inj (q3.symm.trans Y.fill0)
    rw [Launch.admits_selectMethod X.admits]; exact q4
  have hselF : selectMethod e.platform s.vm P1.m.cls T.fill = .method N.fill := by
    obtain ⟨c2, r2, m2, q1, q2, q3, q4, -⟩ := Cond.selects_spec (a' (.selects Bundle.nN Bundle.tFill Bundle.nFill) (by simp [Bundle.npeArmAtoms]))
    cases Option.some.inj (q1.symm.trans hfound)
    cases Option.some.inj (q2.symm.trans (State.methodFound?_of_named Y.fill (by decide)))
    cases Option.some.inj (q3.symm.trans hnNF)
    rw [Launch.admits_selectMethod X.admits]; exact q4
  obtain ⟨cellS0, hcS0, hiss⟩ := Y.statics
  obtain ⟨u0, hu0⟩ := Cond.staticRefV Y.unassigned L.unassignedStatic L.statics hcS0 hiss (a' (.isRef (.static Bundle.tN "UNASSIGNED_STACK" Bundle.steD)) (by simp [Bundle.npeArmAtoms]))
  obtain ⟨sen, hsen⟩ := Cond.staticRefV Y.sentinel L.sentinelStatic L.statics hcS0 hiss (a' (.isRef (.static Bundle.tN "SUPPRESSED_SENTINEL" Bundle.listD)) (by simp [Bundle.npeArmAtoms]))
  obtain ⟨ci198, i198, fB, hk198, hg198, ha198, hsB, -, hnB, htB, hffB⟩ := Cond.ownField (t := .object "java/lang/Object") Y.found L.cls (by decide +kernel) (a' (.fieldLink Bundle.tN 198 Bundle.tN "backtrace" Bundle.objD) (by simp [Bundle.npeArmAtoms])) (a' (.lays Bundle.tN Bundle.tN "backtrace" Bundle.objD) (by simp [Bundle.npeArmAtoms])) e.platform hpl
  obtain ⟨cellS, hcS', heS, -, hkeep⟩ := X.same.2.2.2.2.2 T.aS cellS0 hcS0
  have hcellS : W.heap[T.aS]? = some cellS := hcS'
  have hout' : ∀ i, (⟨T.aS, i⟩ : Loc) ∉ locs := fun i hmem => by
    have := hlocs _ hmem cellS0 hcS0
    rw [hiss] at this; cases this
  have hknownS : cellS.vm ≠ .unknown := by
    rw [heS]; intro hu
    rw [show cellS0.vm = .unknown from hu] at hiss
    cases hiss
  have hvU : cellS.slots[T.fUnassigned.slot]? = some u0.v := by rw [hkeep _ (hout' _)]; exact hu0
  have hvSen : cellS.slots[T.fSentinel.slot]? = some sen.v := by rw [hkeep _ (hout' _)]; exact hsen
  obtain ⟨tyC, dC, hdC, hdnC⟩ := Cond.laysAt hfound hk Y.cause (a' (.lays Bundle.nN Bundle.tN "cause" "Ljava/lang/Throwable;") (by simp [Bundle.npeArmAtoms]))
  obtain ⟨tyS, dS, hdS, hdnS⟩ := Cond.laysAt hfound hk Y.stack (a' (.lays Bundle.nN Bundle.tN "stackTrace" Bundle.steD) (by simp [Bundle.npeArmAtoms]))
  obtain ⟨tyP, dP, hdP, hdnP⟩ := Cond.laysAt hfound hk Y.supp (a' (.lays Bundle.nN Bundle.tN "suppressedExceptions" Bundle.listD) (by simp [Bundle.npeArmAtoms]))
  obtain ⟨tyX, dX, hdX, hdnX⟩ := Cond.laysAt hfound hk hffS (a' (.lays Bundle.nN Bundle.nN "extendedMessageState" "I") (by simp [Bundle.npeArmAtoms, Bundle.npeAtoms]))
  obtain ⟨hnX, htX⟩ := State.fieldFound?_type hffS (t := .int) (by decide +kernel)
  have xC := Cond.laysApart hdC hdX hdnC hdnX (by rw [hnX, Y.causeName]; decide)
  have xS := Cond.laysApart hdS hdX hdnS hdnX (by rw [hnX, Y.stackName]; decide)
  have xP := Cond.laysApart hdP hdX hdnP hdnX (by rw [hnX, Y.suppName]; decide)
  have hv0 : (freshCell P1.m.cls N.kN).slots[N.fState.slot]? = some (.int 0) := by
    have := fresh_default (c := P1.m.cls) tyX
    rw [htX] at this; exact this
  obtain ⟨tyB, dB, hdB, hdnB⟩ := Cond.laysAt hfound hk hffB (a' (.lays Bundle.nN Bundle.tN "backtrace" Bundle.objD) (by simp [Bundle.npeArmAtoms]))
  have bC := Cond.laysApart hdB hdC hdnB hdnC (by rw [hnB, Y.causeName]; decide)
  have bS := Cond.laysApart hdB hdS hdnB hdnS (by rw [hnB, Y.stackName]; decide)
  have bP := Cond.laysApart hdB hdP hdnB hdnP (by rw [hnB, Y.suppName]; decide)
  have bX := Cond.laysApart hdB hdX hdnB hdnX (by rw [hnB, hnX]; decide)
  have hbk : ((npeCell N.toNpeT (preparedCellV T.toThrowableT (freshCell P1.m.cls N.kN) W.heap.size u0 sen) W.cur).withEntry W.cur).slots[fB.slot]? = some .null := by
    have := fresh_default (c := P1.m.cls) tyB
    rw [htB] at this
    simpa [npeCell, preparedCellV, Cell.setSlot, Cell.withEntry, Array.getElem?_setIfInBounds, bC, bS, bP, bX, bC.symm, bS.symm, bP.symm, bX.symm, defaultValue] using this
  have tkC := Takes.of_laid (v := .ref W.heap.size) hk hordN tyC (by rw [Y.causeType]; rfl)
  have tkS := Takes.of_laid (v := u0.v) hk hordN tyS (by rw [Y.stackType]; exact fits_refV_array _ u0)
  have tkP := Takes.of_laid (v := sen.v) hk hordN tyP (by rw [Y.suppType]; exact fits_refV_object _ sen)
  have tkX := Takes.of_laid (v := .int 1) hk hordN tyX (by rw [htX]; rfl)
  have hskip : SkipFacts T e.platform s (fun u => u) u0 ((npeCell N.toNpeT (preparedCellV T.toThrowableT (freshCell P1.m.cls N.kN) W.heap.size u0 sen) W.cur).withEntry W.cur) := ⟨{ ci198 := ci198, i198 := i198, fBack := fB }, ⟨hk198, hg198, ha198, hsB⟩, hbk, fun _ _ => rfl⟩
  obtain ⟨vm', X3, st, -⟩ := X.throwsNpeColdBareVAt hexec hg hsize T L Z LZ N LN P1 L1 [PR, PE] hLs hlink1 ⟨hlinkR, hlinkE, trivial⟩ hfound hk hinit hordN hctor hsel0 hselF hcellS hknownS hvU hvSen
    hv0 xC xS xP tkC tkS tkP tkX Y.objLocals hskip (fun _ _ hA hW _ hroom _ hrest => L.nativeOff p htr hA hW hroom hrest) (by simpa using hRframes) hRlocals (by simp) hRcells (by rw [hn]; exact hRslots)
  have hlt : W.heap.size < ((W.pushCell (freshCell P1.m.cls N.kN)).setVm vm').heap.size := by
    show W.heap.size < (W.pushCell (freshCell P1.m.cls N.kN)).heap.size
    rw [State.heap_size_pushCell]; omega
  rw [hfsz] at X3
  obtain ⟨g₁, hfrM⟩ := X3.frames_eq
  have hU : ((((W.pushCell (freshCell P1.m.cls N.kN)).setVm vm').setCell W.heap.size (npeBareV T.toThrowableT N.toNpeT (freshCell P1.m.cls N.kN) W.heap.size u0 sen)).setTop g).pushFrame (.throwing W.heap.size) = (((W.pushCell (freshCell P1.m.cls N.kN)).setVm vm').setCell W.heap.size (npeBareV T.toThrowableT N.toNpeT (freshCell P1.m.cls N.kN) W.heap.size u0 sen)).setFrames (.throwing W.heap.size :: .java g :: below) := by
    rw [State.pushFrame, State.frames_setTop _ hfrM, State.setTop_of_frames _ hfrM, State.setFrames_setFrames]
  refine ⟨_, W.heap.size, _, fun target ht => st.trans (by rw [← hU]; exact ht), X3.forget (fun y hy => ?_), heapAt_setCell_self _ hlt, hfound, rfl⟩
  simp only [List.mem_cons, List.not_mem_nil, or_false] at hy
  have hge : s.heap.size ≤ W.heap.size := X.same.2.1
  rcases hy with rfl | rfl | rfl | rfl | rfl <;> exact hge
/-- the words of a machine's NullPointerException, but the four that speak of the heap -/
def vx_atN (n : Nat) : List Cond := (Bundle.npeArmAtoms n).filter vx_no
/-- the words of a machine's throw with a message, but the four that speak of the heap -/
def vx_atM (X : String) (names : List String) : List Cond := (Bundle.messageArmAtoms X names).filter vx_no
section
variable {p : Program} {l : Launch} {e : Env} {R : Room} {s : State} {m : MethodId} {args : Array Value} {below : List Frame} {meth : Method} {c : Code} {H : Heap} {locs : List Loc} {cells slots : Nat}
/-- a frame seen from a rebased start, seen from the first start again -/
theorem vx_back9 {T S : State} {R' : Room} {k n : Nat} (X : Stand p l e R s m args below meth c T locs cells slots) (Y : Stand p l e R' ((T.setVm s.vm).setFrames (.invoking m args :: below)) m args below meth c T [] 0 0) (Z : Stand p l e R' ((T.setVm s.vm).setFrames (.invoking m args :: below)) m args below meth c S [] k n) :
    Stand p l e R s m args below meth c S locs (cells + k) (slots + n) := by
  have hW0 : s.WarmedH ((T.setVm s.vm).setFrames (.invoking m args :: below)).vm := State.WarmedH.refl s
  refine { admits := X.admits, cas := X.cas, clock := X.clock, frames := X.frames, room := X.room, hears := X.hears, method := X.method, code := X.code, here := Z.here, tail := Z.tail, warmed := State.WarmedH.trans hW0 Z.warmed, limits := Z.limits.trans (Y.limits.symm.trans X.limits), bytes := Z.bytes.trans (Y.bytes.symm.trans X.bytes), same := ?_ }
  obtain ⟨e1, e2⟩ := Z.same
  rw [State.setFrames_setFrames] at e1
  have h2 : (T.setVm s.vm).sameButNew (S.setVm s.vm) [] k n := ⟨e1, e2⟩
  have h3 := X.same.trans h2
  rw [List.append_nil] at h3
  exact h3
/-- from the machine's note that E is thrown here with this text -/
def vx_Note (p : Program) (l : Launch) (e : Env) (R : Room) (s : State) (m : MethodId) (args : Array Value) (below : List Frame) (meth : Method) (c : Code) (H : Heap) (locs : List Loc) (cells slots : Nat) (Q : State → Prop) (g : JFrame) (E text : String) : Prop :=
  ∀ T : State, T.heap = H → Stand p l e R s m args below meth c T locs cells slots → ∃ t, Steps p.tables e below ((T.setTop g).pushFrame (.throwNew E (some text) none)) t ∧ Q t
theorem vx_vm {pc : Nat} {ls : Array Slot} {rest : List Value} {Q : State → Prop} (hexec : p.tables.exec = Jvm.exec) (hl : l.stackTraces = false) {cls text : String} {names : List String} {nb : Nat} {A : Nat → Prop}
    (hcls : Bundle.fit cls = true) (hnames : ∀ n ∈ names, Bundle.fit n = true) (hsoe : (cls == "java/lang/StackOverflowError") = false) (hoom : (cls == "java/lang/OutOfMemoryError") = false)
    (hat : ∀ w ∈ vx_atM cls names, w.before args s = true) (hgood : ∀ w ∈ vx_atM cls names, vx_ot w = true)
    (hU : vx_Zq Bundle.tN "UNASSIGNED_STACK" Bundle.steD A s s.heap) (hN : vx_Zq Bundle.tN "SUPPRESSED_SENTINEL" Bundle.listD A s s.heap) (hS : va_S A s.heap H locs) (hsize : ls.size = c.maxLocals)
    (htext : (text == notModelled) = false) (hnb : (stringBytes (stringToUtf16 text)).size ≤ nb) (hnb1 : nb ≤ 1000)
    (hRframes : names.length + 4 < R.frames) (hRlocals : (rest.map fun v => v.category).sum + 10240 ≤ R.locals) (hshort : 13 * names.length + 55 ≤ 10240) (hRcells : cells + 3 ≤ R.cells) (hRslots : slots + (nb + 10) ≤ R.slots) (hlocks : meth.locks = false)
    (k : ∀ (H1 : Heap) (q9 : Addr) (ce : Cell), H.size ≤ H1.size → (∀ q : Nat, q < H.size → H1[q]? = H[q]?) → va_S A s.heap H1 locs → H1[q9]? = some ce → ce.vm = .none → s.vm.findClass cls = some ce.cls → vx_W p l e R s m args below meth c H1 locs (cells + 3) (slots + (nb + 10)) Q (F0 m pc ls rest) q9) :
    vx_Note p l e R s m args below meth c H locs cells slots Q (F0 m pc ls rest) cls text := by
  intro T hT X
  have htr : e.platform.stackTraces = false := (show e.platform.stackTraces = l.stackTraces by rw [X.admits.platform]).trans hl
  have Y := vx_rebase X (R' := { frames := R.frames, locals := R.locals, cells := 3, slots := nb + 10 }) (Nat.le_refl _) (Nat.le_refl _) hRcells hRslots
  have hhp : ((T.setVm s.vm).setFrames (.invoking m args :: below)).heap = H := hT
  have hW0 : s.WarmedH ((T.setVm s.vm).setFrames (.invoking m args :: below)).vm := State.WarmedH.refl s
  have hat' : ∀ w ∈ vx_atM cls names, w.before args ((T.setVm s.vm).setFrames (.invoking m args :: below)) = true := fun w hw => vx_ot_at hW0 rfl (hgood w hw) (hat w hw)
  have hU' : vx_Zq Bundle.tN "UNASSIGNED_STACK" Bundle.steD A ((T.setVm s.vm).setFrames (.invoking m args :: below)) ((T.setVm s.vm).setFrames (.invoking m args :: below)).heap := by rw [hhp]; exact vx_Zq.moved hW0.alike (hU.kept hS.2.1)
  have hN' : vx_Zq Bundle.tN "SUPPRESSED_SENTINEL" Bundle.listD A ((T.setVm s.vm).setFrames (.invoking m args :: below)) ((T.setVm s.vm).setFrames (.invoking m args :: below)).heap := by rw [hhp]; exact vx_Zq.moved hW0.alike (hN.kept hS.2.1)
  obtain ⟨S, q, ce, st, Z, hce, hcl', hv⟩ := vx_vmAt Y hexec htr (cls := cls) (names := names) (text := text) hcls hnames hsoe hoom (vx_own hat' (vx_isRefq hU'.1) (vx_isRefq hN'.1) hU'.2.word hN'.2.word) (fun x hx => nomatch hx) htext
    (by rw [Launch.admits_arrayLengthLimit X.admits]; omega) (by rw [Launch.admits_maxHeapBytes X.admits]; simp only [componentBytes]; omega)
    (g := F0 m pc ls rest) rfl hsize hRframes (by show 2 * 0 + (rest.map fun v => v.category).sum + 10240 ≤ R.locals; omega) hshort (by show 0 + 3 ≤ 3; omega) (by show 0 + (_ + 4 + 6) ≤ nb + 10; omega) hlocks
  obtain ⟨f1, f2⟩ := vx_frame Z.same
  have f1' : H.size ≤ S.heap.size := by rw [← hT]; exact f1
  have f2' : ∀ q : Nat, q < H.size → S.heap[q]? = H[q]? := fun q hq => by
    rw [← hT]
    exact f2 q (by rw [← hT] at hq; exact hq) (fun z hz => nomatch hz)
  have X5 := vx_back9 X Y Z
  have X6 : Stand p l e R s m args below meth c S locs (cells + 3) (slots + (nb + 10)) := { X5 with same := X5.same.mono (by omega) (by omega) }
  obtain ⟨t, a1, b1⟩ := k S.heap q ce f1' f2' ⟨Nat.le_trans hS.1 f1', fun q h1 h2 => (f2' q (Nat.lt_of_lt_of_le h1 hS.1)).trans (hS.2.1 q h1 h2), hS.2.2⟩ hce hv hcl' S rfl X6
  exact ⟨t, st t a1, b1⟩
/-- from the machine's note that NullPointerException is thrown here -/
def vx_NoteN (p : Program) (l : Launch) (e : Env) (R : Room) (s : State) (m : MethodId) (args : Array Value) (below : List Frame) (meth : Method) (c : Code) (H : Heap) (locs : List Loc) (cells slots : Nat) (Q : State → Prop) (g : JFrame) : Prop :=
  ∀ T : State, T.heap = H → Stand p l e R s m args below meth c T locs cells slots → ∃ t, Steps p.tables e below ((T.setTop g).pushFrame (.throwNew "java/lang/NullPointerException" none none)) t ∧ Q t
theorem vx_npe {pc : Nat} {ls : Array Slot} {rest : List Value} {Q : State → Prop} (hexec : p.tables.exec = Jvm.exec) (hl : l.stackTraces = false) {nb : Nat} {A : Nat → Prop}
    (hat : ∀ w ∈ vx_atN nb, w.before args s = true) (hgood : ∀ w ∈ vx_atN nb, vx_ot w = true)
    (hU : vx_Zq Bundle.tN "UNASSIGNED_STACK" Bundle.steD A s s.heap) (hN : vx_Zq Bundle.tN "SUPPRESSED_SENTINEL" Bundle.listD A s s.heap) (hS : va_S A s.heap H locs) (hsize : ls.size = c.maxLocals)
    (hRframes : 7 < R.frames) (hRlocals : (rest.map fun v => v.category).sum + 10240 ≤ R.locals) (hRcells : cells + 1 ≤ R.cells) (hRslots : slots + nb ≤ R.slots) (hlocks : meth.locks = false)
    (k : ∀ (H1 : Heap) (q9 : Addr) (ce : Cell), H.size ≤ H1.size → (∀ q : Nat, q < H.size → H1[q]? = H[q]?) → va_S A s.heap H1 locs → H1[q9]? = some ce → ce.vm = .none → s.vm.findClass "java/lang/NullPointerException" = some ce.cls → vx_W p l e R s m args below meth c H1 locs (cells + 1) (slots + nb) Q (F0 m pc ls rest) q9) :
    vx_NoteN p l e R s m args below meth c H locs cells slots Q (F0 m pc ls rest) := by
  intro T hT X
  have htr : e.platform.stackTraces = false := (show e.platform.stackTraces = l.stackTraces by rw [X.admits.platform]).trans hl
  have Y := vx_rebase X (R' := { frames := R.frames, locals := R.locals, cells := 1, slots := nb }) (Nat.le_refl _) (Nat.le_refl _) hRcells hRslots
  have hhp : ((T.setVm s.vm).setFrames (.invoking m args :: below)).heap = H := hT
  have hW0 : s.WarmedH ((T.setVm s.vm).setFrames (.invoking m args :: below)).vm := State.WarmedH.refl s
  have hat' : ∀ w ∈ vx_atN nb, w.before args ((T.setVm s.vm).setFrames (.invoking m args :: below)) = true := fun w hw => vx_ot_at hW0 rfl (hgood w hw) (hat w hw)
  have hU' : vx_Zq Bundle.tN "UNASSIGNED_STACK" Bundle.steD A ((T.setVm s.vm).setFrames (.invoking m args :: below)) ((T.setVm s.vm).setFrames (.invoking m args :: below)).heap := by rw [hhp]; exact vx_Zq.moved hW0.alike (hU.kept hS.2.1)
  have hN' : vx_Zq Bundle.tN "SUPPRESSED_SENTINEL" Bundle.listD A ((T.setVm s.vm).setFrames (.invoking m args :: below)) ((T.setVm s.vm).setFrames (.invoking m args :: below)).heap := by rw [hhp]; exact vx_Zq.moved hW0.alike (hN.kept hS.2.1)
  obtain ⟨S, q, ce, st, Z, hce, hcl', hv⟩ := vx_npeAt Y hexec htr (n := nb) (vx_own hat' (vx_isRefq hU'.1) (vx_isRefq hN'.1) hU'.2.word hN'.2.word) (fun x hx => nomatch hx)
    (g := F0 m pc ls rest) rfl hsize hRframes (by show 2 * 0 + (rest.map fun v => v.category).sum + 10240 ≤ R.locals; omega) (by show 0 + 1 ≤ 1; omega) (by show 0 + nb ≤ nb; omega) hlocks
  obtain ⟨f1, f2⟩ := vx_frame Z.same
  have f1' : H.size ≤ S.heap.size := by rw [← hT]; exact f1
  have f2' : ∀ q : Nat, q < H.size → S.heap[q]? = H[q]? := fun q hq => by
    rw [← hT]
    exact f2 q (by rw [← hT] at hq; exact hq) (fun z hz => nomatch hz)
  have X5 := vx_back9 X Y Z
  have X6 : Stand p l e R s m args below meth c S locs (cells + 1) (slots + nb) := { X5 with same := X5.same.mono (by omega) (by omega) }
  obtain ⟨t, a1, b1⟩ := k S.heap q ce f1' f2' ⟨Nat.le_trans hS.1 f1', fun q h1 h2 => (f2' q (Nat.lt_of_lt_of_le h1 hS.1)).trans (hS.2.1 q h1 h2), hS.2.2⟩ hce hv hcl' S rfl X6
  exact ⟨t, st t a1, b1⟩
variable {Q : State → Prop} {cc : ByteArray} {pc : Nat} {ls : Array Slot} {rest : List Value}
theorem vx_idivZ (hexec : p.tables.exec = Jvm.exec) (hb : c.code = cc) {a b : Int32} (h0 : b = 0) (d : decode cc pc = .ok (.idiv, 1)) (k : vx_Note p l e R s m args below meth c H locs cells slots Q (F0 m pc ls rest) "java/lang/ArithmeticException" "/ by zero") :
    W p l e R s m args below meth c H locs cells slots Q (F0 m pc ls (.int b :: .int a :: rest)) := by
  intro T hT X
  obtain ⟨t, st, q⟩ := k T hT X
  exact ⟨t, X.idivZero hexec (g := F0 m pc ls (.int b :: .int a :: rest)) rfl (a := a) (rest := rest) (by rw [h0]) (by rw [hb]; exact d) t st, q⟩
theorem vx_iremZ (hexec : p.tables.exec = Jvm.exec) (hb : c.code = cc) {a b : Int32} (h0 : b = 0) (d : decode cc pc = .ok (.irem, 1)) (k : vx_Note p l e R s m args below meth c H locs cells slots Q (F0 m pc ls rest) "java/lang/ArithmeticException" "/ by zero") :
    W p l e R s m args below meth c H locs cells slots Q (F0 m pc ls (.int b :: .int a :: rest)) := by
  intro T hT X
  obtain ⟨t, st, q⟩ := k T hT X
  exact ⟨t, X.iremZero hexec (g := F0 m pc ls (.int b :: .int a :: rest)) rfl (a := a) (rest := rest) (by rw [h0]) (by rw [hb]; exact d) t st, q⟩
theorem vx_ldivZ (hexec : p.tables.exec = Jvm.exec) (hb : c.code = cc) {a b : Int64} (h0 : b = 0) (d : decode cc pc = .ok (.ldiv, 1)) (k : vx_Note p l e R s m args below meth c H locs cells slots Q (F0 m pc ls rest) "java/lang/ArithmeticException" "/ by zero") :
    W p l e R s m args below meth c H locs cells slots Q (F0 m pc ls (.long b :: .long a :: rest)) := by
  intro T hT X
  obtain ⟨t, st, q⟩ := k T hT X
  exact ⟨t, X.ldivZero hexec (g := F0 m pc ls (.long b :: .long a :: rest)) rfl (a := a) (rest := rest) (by rw [h0]) (by rw [hb]; exact d) t st, q⟩
theorem vx_lremZ (hexec : p.tables.exec = Jvm.exec) (hb : c.code = cc) {a b : Int64} (h0 : b = 0) (d : decode cc pc = .ok (.lrem, 1)) (k : vx_Note p l e R s m args below meth c H locs cells slots Q (F0 m pc ls rest) "java/lang/ArithmeticException" "/ by zero") :
    W p l e R s m args below meth c H locs cells slots Q (F0 m pc ls (.long b :: .long a :: rest)) := by
  intro T hT X
  obtain ⟨t, st, q⟩ := k T hT X
  exact ⟨t, X.lremZero hexec (g := F0 m pc ls (.long b :: .long a :: rest)) rfl (a := a) (rest := rest) (by rw [h0]) (by rw [hb]; exact d) t st, q⟩
theorem vx_ialdZ {D : va_G} {cl : List vw_C} {ws : va_W} {tys : List (ClassId × FieldType)} {a : Nat} (hexec : p.tables.exec = Jvm.exec) (hb : c.code = cc) (hK : va_K D cl tys s) (hP : va_P D cl ws H) (q0 t0 : Nat) {cA : ClassId} {n : Nat} {f : Nat → Int32} (ha : ws[q0]? = some (a, .inl (cA, n, .inl f))) (ht : tys[t0]? = some (cA, .int)) {i : Int32} (hout : ¬ vp_in i n) (hdg : decode cc pc = .ok (.iaload, 1))
    (k : ∀ tx : String, tx = (toString "Index " ++ toString i ++ toString " out of bounds for length " ++ toString n : String) → vx_Note p l e R s m args below meth c H locs cells slots Q (F0 m pc ls rest) "java/lang/ArrayIndexOutOfBoundsException" tx) : W p l e R s m args below meth c H locs cells slots Q (F0 m pc ls (.int i :: .ref a :: rest)) := by
  intro T hT X
  obtain ⟨t, st, q⟩ := k _ rfl T hT X
  refine ⟨t, ?_, q⟩
  have h1 := X.ialoadOut hexec (by rw [hT]; exact hP q0 _ ha) ((hK.2 t0 _ ht).1 n (fun j => .int (f j))) (j := i) (by show (i < 0 ∨ (arrV _ _ _).slots.size ≤ _); rw [arrV_size]; exact Classical.byContradiction hout) (g := F0 m pc ls (.int i :: .ref a :: rest)) rfl (rest := rest) rfl (by rw [hb]; exact hdg) t
  simp only [arrV_size] at h1
  exact h1 st
theorem vx_iastZ {D : va_G} {cl : List vw_C} {ws : va_W} {tys : List (ClassId × FieldType)} {a : Nat} (hexec : p.tables.exec = Jvm.exec) (hb : c.code = cc) (hK : va_K D cl tys s) (hP : va_P D cl ws H) (q0 t0 : Nat) {cA : ClassId} {n : Nat} {f : Nat → Int32} (ha : ws[q0]? = some (a, .inl (cA, n, .inl f))) (ht : tys[t0]? = some (cA, .int)) {i : Int32} {x : Int32} (hout : ¬ vp_in i n) (hdg : decode cc pc = .ok (.iastore, 1))
    (k : ∀ tx : String, tx = (toString "Index " ++ toString i ++ toString " out of bounds for length " ++ toString n : String) → vx_Note p l e R s m args below meth c H locs cells slots Q (F0 m pc ls rest) "java/lang/ArrayIndexOutOfBoundsException" tx) : W p l e R s m args below meth c H locs cells slots Q (F0 m pc ls (.int x :: .int i :: .ref a :: rest)) := by
  intro T hT X
  obtain ⟨t, st, q⟩ := k _ rfl T hT X
  refine ⟨t, ?_, q⟩
  have h1 := X.iastoreOut hexec (by rw [hT]; exact hP q0 _ ha) ((hK.2 t0 _ ht).1 n (fun j => .int (f j))) (j := i) (by show (i < 0 ∨ (arrV _ _ _).slots.size ≤ _); rw [arrV_size]; exact Classical.byContradiction hout) (g := F0 m pc ls (.int x :: .int i :: .ref a :: rest)) rfl (rest := rest) rfl (by rw [hb]; exact hdg) t
  simp only [arrV_size] at h1
  exact h1 st
theorem vx_baldZ {D : va_G} {cl : List vw_C} {ws : va_W} {tys : List (ClassId × FieldType)} {a : Nat} (hexec : p.tables.exec = Jvm.exec) (hb : c.code = cc) (hK : va_K D cl tys s) (hP : va_P D cl ws H) (q0 t0 : Nat) {cA : ClassId} {n : Nat} {f : Nat → Int32} (ha : ws[q0]? = some (a, .inl (cA, n, .inl f))) (ht : tys[t0]? = some (cA, .byte)) {i : Int32} (hout : ¬ vp_in i n) (hdg : decode cc pc = .ok (.baload, 1))
    (k : ∀ tx : String, tx = (toString "Index " ++ toString i ++ toString " out of bounds for length " ++ toString n : String) → vx_Note p l e R s m args below meth c H locs cells slots Q (F0 m pc ls rest) "java/lang/ArrayIndexOutOfBoundsException" tx) : W p l e R s m args below meth c H locs cells slots Q (F0 m pc ls (.int i :: .ref a :: rest)) := by
  intro T hT X
  obtain ⟨t, st, q⟩ := k _ rfl T hT X
  refine ⟨t, ?_, q⟩
  have h1 := X.baloadOut hexec (by rw [hT]; exact hP q0 _ ha) ((hK.2 t0 _ ht).1 n (fun j => .int (f j))) (j := i) (by show (i < 0 ∨ (arrV _ _ _).slots.size ≤ _); rw [arrV_size]; exact Classical.byContradiction hout) (g := F0 m pc ls (.int i :: .ref a :: rest)) rfl (rest := rest) rfl (by rw [hb]; exact hdg) t
  simp only [arrV_size] at h1
  exact h1 st
theorem vx_bastZ {D : va_G} {cl : List vw_C} {ws : va_W} {tys : List (ClassId × FieldType)} {a : Nat} (hexec : p.tables.exec = Jvm.exec) (hb : c.code = cc) (hK : va_K D cl tys s) (hP : va_P D cl ws H) (q0 t0 : Nat) {cA : ClassId} {n : Nat} {f : Nat → Int32} (ha : ws[q0]? = some (a, .inl (cA, n, .inl f))) (ht : tys[t0]? = some (cA, .byte)) {i : Int32} {x : Int32} (hout : ¬ vp_in i n) (hdg : decode cc pc = .ok (.bastore, 1))
    (k : ∀ tx : String, tx = (toString "Index " ++ toString i ++ toString " out of bounds for length " ++ toString n : String) → vx_Note p l e R s m args below meth c H locs cells slots Q (F0 m pc ls rest) "java/lang/ArrayIndexOutOfBoundsException" tx) : W p l e R s m args below meth c H locs cells slots Q (F0 m pc ls (.int x :: .int i :: .ref a :: rest)) := by
  intro T hT X
  obtain ⟨t, st, q⟩ := k _ rfl T hT X
  refine ⟨t, ?_, q⟩
  have h1 := X.bastoreOut hexec (by rw [hT]; exact hP q0 _ ha) ((hK.2 t0 _ ht).1 n (fun j => .int (f j))) (j := i) (by show (i < 0 ∨ (arrV _ _ _).slots.size ≤ _); rw [arrV_size]; exact Classical.byContradiction hout) (g := F0 m pc ls (.int x :: .int i :: .ref a :: rest)) rfl (rest := rest) rfl (by rw [hb]; exact hdg) t
  simp only [arrV_size] at h1
  exact h1 st
theorem vx_zaldZ {D : va_G} {cl : List vw_C} {ws : va_W} {tys : List (ClassId × FieldType)} {a : Nat} (hexec : p.tables.exec = Jvm.exec) (hb : c.code = cc) (hK : va_K D cl tys s) (hP : va_P D cl ws H) (q0 t0 : Nat) {cA : ClassId} {n : Nat} {f : Nat → Int32} (ha : ws[q0]? = some (a, .inl (cA, n, .inl f))) (ht : tys[t0]? = some (cA, .boolean)) {i : Int32} (hout : ¬ vp_in i n) (hdg : decode cc pc = .ok (.baload, 1))
    (k : ∀ tx : String, tx = (toString "Index " ++ toString i ++ toString " out of bounds for length " ++ toString n : String) → vx_Note p l e R s m args below meth c H locs cells slots Q (F0 m pc ls rest) "java/lang/ArrayIndexOutOfBoundsException" tx) : W p l e R s m args below meth c H locs cells slots Q (F0 m pc ls (.int i :: .ref a :: rest)) := by
  intro T hT X
  obtain ⟨t, st, q⟩ := k _ rfl T hT X
  refine ⟨t, ?_, q⟩
  have h1 := X.baloadOut hexec (by rw [hT]; exact hP q0 _ ha) ((hK.2 t0 _ ht).1 n (fun j => .int (f j))) (j := i) (by show (i < 0 ∨ (arrV _ _ _).slots.size ≤ _); rw [arrV_size]; exact Classical.byContradiction hout) (g := F0 m pc ls (.int i :: .ref a :: rest)) rfl (rest := rest) rfl (by rw [hb]; exact hdg) t
  simp only [arrV_size] at h1
  exact h1 st
theorem vx_zastZ {D : va_G} {cl : List vw_C} {ws : va_W} {tys : List (ClassId × FieldType)} {a : Nat} (hexec : p.tables.exec = Jvm.exec) (hb : c.code = cc) (hK : va_K D cl tys s) (hP : va_P D cl ws H) (q0 t0 : Nat) {cA : ClassId} {n : Nat} {f : Nat → Int32} (ha : ws[q0]? = some (a, .inl (cA, n, .inl f))) (ht : tys[t0]? = some (cA, .boolean)) {i : Int32} {x : Int32} (hout : ¬ vp_in i n) (hdg : decode cc pc = .ok (.bastore, 1))
    (k : ∀ tx : String, tx = (toString "Index " ++ toString i ++ toString " out of bounds for length " ++ toString n : String) → vx_Note p l e R s m args below meth c H locs cells slots Q (F0 m pc ls rest) "java/lang/ArrayIndexOutOfBoundsException" tx) : W p l e R s m args below meth c H locs cells slots Q (F0 m pc ls (.int x :: .int i :: .ref a :: rest)) := by
  intro T hT X
  obtain ⟨t, st, q⟩ := k _ rfl T hT X
  refine ⟨t, ?_, q⟩
  have h1 := X.bastoreOut hexec (by rw [hT]; exact hP q0 _ ha) ((hK.2 t0 _ ht).1 n (fun j => .int (f j))) (j := i) (by show (i < 0 ∨ (arrV _ _ _).slots.size ≤ _); rw [arrV_size]; exact Classical.byContradiction hout) (g := F0 m pc ls (.int x :: .int i :: .ref a :: rest)) rfl (rest := rest) rfl (by rw [hb]; exact hdg) t
  simp only [arrV_size] at h1
  exact h1 st
theorem vx_caldZ {D : va_G} {cl : List vw_C} {ws : va_W} {tys : List (ClassId × FieldType)} {a : Nat} (hexec : p.tables.exec = Jvm.exec) (hb : c.code = cc) (hK : va_K D cl tys s) (hP : va_P D cl ws H) (q0 t0 : Nat) {cA : ClassId} {n : Nat} {f : Nat → Int32} (ha : ws[q0]? = some (a, .inl (cA, n, .inl f))) (ht : tys[t0]? = some (cA, .char)) {i : Int32} (hout : ¬ vp_in i n) (hdg : decode cc pc = .ok (.caload, 1))
    (k : ∀ tx : String, tx = (toString "Index " ++ toString i ++ toString " out of bounds for length " ++ toString n : String) → vx_Note p l e R s m args below meth c H locs cells slots Q (F0 m pc ls rest) "java/lang/ArrayIndexOutOfBoundsException" tx) : W p l e R s m args below meth c H locs cells slots Q (F0 m pc ls (.int i :: .ref a :: rest)) := by
  intro T hT X
  obtain ⟨t, st, q⟩ := k _ rfl T hT X
  refine ⟨t, ?_, q⟩
  have h1 := X.caloadOut hexec (by rw [hT]; exact hP q0 _ ha) ((hK.2 t0 _ ht).1 n (fun j => .int (f j))) (j := i) (by show (i < 0 ∨ (arrV _ _ _).slots.size ≤ _); rw [arrV_size]; exact Classical.byContradiction hout) (g := F0 m pc ls (.int i :: .ref a :: rest)) rfl (rest := rest) rfl (by rw [hb]; exact hdg) t
  simp only [arrV_size] at h1
  exact h1 st
theorem vx_castZ {D : va_G} {cl : List vw_C} {ws : va_W} {tys : List (ClassId × FieldType)} {a : Nat} (hexec : p.tables.exec = Jvm.exec) (hb : c.code = cc) (hK : va_K D cl tys s) (hP : va_P D cl ws H) (q0 t0 : Nat) {cA : ClassId} {n : Nat} {f : Nat → Int32} (ha : ws[q0]? = some (a, .inl (cA, n, .inl f))) (ht : tys[t0]? = some (cA, .char)) {i : Int32} {x : Int32} (hout : ¬ vp_in i n) (hdg : decode cc pc = .ok (.castore, 1))
    (k : ∀ tx : String, tx = (toString "Index " ++ toString i ++ toString " out of bounds for length " ++ toString n : String) → vx_Note p l e R s m args below meth c H locs cells slots Q (F0 m pc ls rest) "java/lang/ArrayIndexOutOfBoundsException" tx) : W p l e R s m args below meth c H locs cells slots Q (F0 m pc ls (.int x :: .int i :: .ref a :: rest)) := by
  intro T hT X
  obtain ⟨t, st, q⟩ := k _ rfl T hT X
  refine ⟨t, ?_, q⟩
  have h1 := X.castoreOut hexec (by rw [hT]; exact hP q0 _ ha) ((hK.2 t0 _ ht).1 n (fun j => .int (f j))) (j := i) (by show (i < 0 ∨ (arrV _ _ _).slots.size ≤ _); rw [arrV_size]; exact Classical.byContradiction hout) (g := F0 m pc ls (.int x :: .int i :: .ref a :: rest)) rfl (rest := rest) rfl (by rw [hb]; exact hdg) t
  simp only [arrV_size] at h1
  exact h1 st
theorem vx_saldZ {D : va_G} {cl : List vw_C} {ws : va_W} {tys : List (ClassId × FieldType)} {a : Nat} (hexec : p.tables.exec = Jvm.exec) (hb : c.code = cc) (hK : va_K D cl tys s) (hP : va_P D cl ws H) (q0 t0 : Nat) {cA : ClassId} {n : Nat} {f : Nat → Int32} (ha : ws[q0]? = some (a, .inl (cA, n, .inl f))) (ht : tys[t0]? = some (cA, .short)) {i : Int32} (hout : ¬ vp_in i n) (hdg : decode cc pc = .ok (.saload, 1))
    (k : ∀ tx : String, tx = (toString "Index " ++ toString i ++ toString " out of bounds for length " ++ toString n : String) → vx_Note p l e R s m args below meth c H locs cells slots Q (F0 m pc ls rest) "java/lang/ArrayIndexOutOfBoundsException" tx) : W p l e R s m args below meth c H locs cells slots Q (F0 m pc ls (.int i :: .ref a :: rest)) := by
  intro T hT X
  obtain ⟨t, st, q⟩ := k _ rfl T hT X
  refine ⟨t, ?_, q⟩
  have h1 := X.saloadOut hexec (by rw [hT]; exact hP q0 _ ha) ((hK.2 t0 _ ht).1 n (fun j => .int (f j))) (j := i) (by show (i < 0 ∨ (arrV _ _ _).slots.size ≤ _); rw [arrV_size]; exact Classical.byContradiction hout) (g := F0 m pc ls (.int i :: .ref a :: rest)) rfl (rest := rest) rfl (by rw [hb]; exact hdg) t
  simp only [arrV_size] at h1
  exact h1 st
theorem vx_sastZ {D : va_G} {cl : List vw_C} {ws : va_W} {tys : List (ClassId × FieldType)} {a : Nat} (hexec : p.tables.exec = Jvm.exec) (hb : c.code = cc) (hK : va_K D cl tys s) (hP : va_P D cl ws H) (q0 t0 : Nat) {cA : ClassId} {n : Nat} {f : Nat → Int32} (ha : ws[q0]? = some (a, .inl (cA, n, .inl f))) (ht : tys[t0]? = some (cA, .short)) {i : Int32} {x : Int32} (hout : ¬ vp_in i n) (hdg : decode cc pc = .ok (.sastore, 1))
    (k : ∀ tx : String, tx = (toString "Index " ++ toString i ++ toString " out of bounds for length " ++ toString n : String) → vx_Note p l e R s m args below meth c H locs cells slots Q (F0 m pc ls rest) "java/lang/ArrayIndexOutOfBoundsException" tx) : W p l e R s m args below meth c H locs cells slots Q (F0 m pc ls (.int x :: .int i :: .ref a :: rest)) := by
  intro T hT X
  obtain ⟨t, st, q⟩ := k _ rfl T hT X
  refine ⟨t, ?_, q⟩
  have h1 := X.sastoreOut hexec (by rw [hT]; exact hP q0 _ ha) ((hK.2 t0 _ ht).1 n (fun j => .int (f j))) (j := i) (by show (i < 0 ∨ (arrV _ _ _).slots.size ≤ _); rw [arrV_size]; exact Classical.byContradiction hout) (g := F0 m pc ls (.int x :: .int i :: .ref a :: rest)) rfl (rest := rest) rfl (by rw [hb]; exact hdg) t
  simp only [arrV_size] at h1
  exact h1 st
theorem vx_laldZ {D : va_G} {cl : List vw_C} {ws : va_W} {tys : List (ClassId × FieldType)} {a : Nat} (hexec : p.tables.exec = Jvm.exec) (hb : c.code = cc) (hK : va_K D cl tys s) (hP : va_P D cl ws H) (q0 t0 : Nat) {cA : ClassId} {n : Nat} {f : Nat → Int64} (ha : ws[q0]? = some (a, .inl (cA, n, .inr (.inl f)))) (ht : tys[t0]? = some (cA, .long)) {i : Int32} (hout : ¬ vp_in i n) (hdg : decode cc pc = .ok (.laload, 1))
    (k : ∀ tx : String, tx = (toString "Index " ++ toString i ++ toString " out of bounds for length " ++ toString n : String) → vx_Note p l e R s m args below meth c H locs cells slots Q (F0 m pc ls rest) "java/lang/ArrayIndexOutOfBoundsException" tx) : W p l e R s m args below meth c H locs cells slots Q (F0 m pc ls (.int i :: .ref a :: rest)) := by
  intro T hT X
  obtain ⟨t, st, q⟩ := k _ rfl T hT X
  refine ⟨t, ?_, q⟩
  have h1 := X.laloadOut hexec (by rw [hT]; exact hP q0 _ ha) ((hK.2 t0 _ ht).1 n (fun j => .long (f j))) (j := i) (by show (i < 0 ∨ (arrV _ _ _).slots.size ≤ _); rw [arrV_size]; exact Classical.byContradiction hout) (g := F0 m pc ls (.int i :: .ref a :: rest)) rfl (rest := rest) rfl (by rw [hb]; exact hdg) t
  simp only [arrV_size] at h1
  exact h1 st
theorem vx_lastZ {D : va_G} {cl : List vw_C} {ws : va_W} {tys : List (ClassId × FieldType)} {a : Nat} (hexec : p.tables.exec = Jvm.exec) (hb : c.code = cc) (hK : va_K D cl tys s) (hP : va_P D cl ws H) (q0 t0 : Nat) {cA : ClassId} {n : Nat} {f : Nat → Int64} (ha : ws[q0]? = some (a, .inl (cA, n, .inr (.inl f)))) (ht : tys[t0]? = some (cA, .long)) {i : Int32} {x : Int64} (hout : ¬ vp_in i n) (hdg : decode cc pc = .ok (.lastore, 1))
    (k : ∀ tx : String, tx = (toString "Index " ++ toString i ++ toString " out of bounds for length " ++ toString n : String) → vx_Note p l e R s m args below meth c H locs cells slots Q (F0 m pc ls rest) "java/lang/ArrayIndexOutOfBoundsException" tx) : W p l e R s m args below meth c H locs cells slots Q (F0 m pc ls (.long x :: .int i :: .ref a :: rest)) := by
  intro T hT X
  obtain ⟨t, st, q⟩ := k _ rfl T hT X
  refine ⟨t, ?_, q⟩
  have h1 := X.lastoreOut hexec (by rw [hT]; exact hP q0 _ ha) ((hK.2 t0 _ ht).1 n (fun j => .long (f j))) (j := i) (by show (i < 0 ∨ (arrV _ _ _).slots.size ≤ _); rw [arrV_size]; exact Classical.byContradiction hout) (g := F0 m pc ls (.long x :: .int i :: .ref a :: rest)) rfl (rest := rest) rfl (by rw [hb]; exact hdg) t
  simp only [arrV_size] at h1
  exact h1 st
theorem vx_faldZ {D : va_G} {cl : List vw_C} {ws : va_W} {tys : List (ClassId × FieldType)} {a : Nat} (hexec : p.tables.exec = Jvm.exec) (hb : c.code = cc) (hK : va_K D cl tys s) (hP : va_P D cl ws H) (q0 t0 : Nat) {cA : ClassId} {n : Nat} {f : Nat → UInt32} (ha : ws[q0]? = some (a, .inl (cA, n, .inr (.inr (.inl f))))) (ht : tys[t0]? = some (cA, .float)) {i : Int32} (hout : ¬ vp_in i n) (hdg : decode cc pc = .ok (.faload, 1))
    (k : ∀ tx : String, tx = (toString "Index " ++ toString i ++ toString " out of bounds for length " ++ toString n : String) → vx_Note p l e R s m args below meth c H locs cells slots Q (F0 m pc ls rest) "java/lang/ArrayIndexOutOfBoundsException" tx) : W p l e R s m args below meth c H locs cells slots Q (F0 m pc ls (.int i :: .ref a :: rest)) := by
  intro T hT X
  obtain ⟨t, st, q⟩ := k _ rfl T hT X
  refine ⟨t, ?_, q⟩
  have h1 := X.faloadOut hexec (by rw [hT]; exact hP q0 _ ha) ((hK.2 t0 _ ht).1 n (fun j => .float (f j))) (j := i) (by show (i < 0 ∨ (arrV _ _ _).slots.size ≤ _); rw [arrV_size]; exact Classical.byContradiction hout) (g := F0 m pc ls (.int i :: .ref a :: rest)) rfl (rest := rest) rfl (by rw [hb]; exact hdg) t
  simp only [arrV_size] at h1
  exact h1 st
theorem vx_fastZ {D : va_G} {cl : List vw_C} {ws : va_W} {tys : List (ClassId × FieldType)} {a : Nat} (hexec : p.tables.exec = Jvm.exec) (hb : c.code = cc) (hK : va_K D cl tys s) (hP : va_P D cl ws H) (q0 t0 : Nat) {cA : ClassId} {n : Nat} {f : Nat → UInt32} (ha : ws[q0]? = some (a, .inl (cA, n, .inr (.inr (.inl f))))) (ht : tys[t0]? = some (cA, .float)) {i : Int32} {x : UInt32} (hout : ¬ vp_in i n) (hdg : decode cc pc = .ok (.fastore, 1))
    (k : ∀ tx : String, tx = (toString "Index " ++ toString i ++ toString " out of bounds for length " ++ toString n : String) → vx_Note p l e R s m args below meth c H locs cells slots Q (F0 m pc ls rest) "java/lang/ArrayIndexOutOfBoundsException" tx) : W p l e R s m args below meth c H locs cells slots Q (F0 m pc ls (.float x :: .int i :: .ref a :: rest)) := by
  intro T hT X
  obtain ⟨t, st, q⟩ := k _ rfl T hT X
  refine ⟨t, ?_, q⟩
  have h1 := X.fastoreOut hexec (by rw [hT]; exact hP q0 _ ha) ((hK.2 t0 _ ht).1 n (fun j => .float (f j))) (j := i) (by show (i < 0 ∨ (arrV _ _ _).slots.size ≤ _); rw [arrV_size]; exact Classical.byContradiction hout) (g := F0 m pc ls (.float x :: .int i :: .ref a :: rest)) rfl (rest := rest) rfl (by rw [hb]; exact hdg) t
  simp only [arrV_size] at h1
  exact h1 st
theorem vx_daldZ {D : va_G} {cl : List vw_C} {ws : va_W} {tys : List (ClassId × FieldType)} {a : Nat} (hexec : p.tables.exec = Jvm.exec) (hb : c.code = cc) (hK : va_K D cl tys s) (hP : va_P D cl ws H) (q0 t0 : Nat) {cA : ClassId} {n : Nat} {f : Nat → UInt64} (ha : ws[q0]? = some (a, .inl (cA, n, .inr (.inr (.inr (.inl f)))))) (ht : tys[t0]? = some (cA, .double)) {i : Int32} (hout : ¬ vp_in i n) (hdg : decode cc pc = .ok (.daload, 1))
    (k : ∀ tx : String, tx = (toString "Index " ++ toString i ++ toString " out of bounds for length " ++ toString n : String) → vx_Note p l e R s m args below meth c H locs cells slots Q (F0 m pc ls rest) "java/lang/ArrayIndexOutOfBoundsException" tx) : W p l e R s m args below meth c H locs cells slots Q (F0 m pc ls (.int i :: .ref a :: rest)) := by
  intro T hT X
  obtain ⟨t, st, q⟩ := k _ rfl T hT X
  refine ⟨t, ?_, q⟩
  have h1 := X.daloadOut hexec (by rw [hT]; exact hP q0 _ ha) ((hK.2 t0 _ ht).1 n (fun j => .double (f j))) (j := i) (by show (i < 0 ∨ (arrV _ _ _).slots.size ≤ _); rw [arrV_size]; exact Classical.byContradiction hout) (g := F0 m pc ls (.int i :: .ref a :: rest)) rfl (rest := rest) rfl (by rw [hb]; exact hdg) t
  simp only [arrV_size] at h1
  exact h1 st
theorem vx_dastZ {D : va_G} {cl : List vw_C} {ws : va_W} {tys : List (ClassId × FieldType)} {a : Nat} (hexec : p.tables.exec = Jvm.exec) (hb : c.code = cc) (hK : va_K D cl tys s) (hP : va_P D cl ws H) (q0 t0 : Nat) {cA : ClassId} {n : Nat} {f : Nat → UInt64} (ha : ws[q0]? = some (a, .inl (cA, n, .inr (.inr (.inr (.inl f)))))) (ht : tys[t0]? = some (cA, .double)) {i : Int32} {x : UInt64} (hout : ¬ vp_in i n) (hdg : decode cc pc = .ok (.dastore, 1))
    (k : ∀ tx : String, tx = (toString "Index " ++ toString i ++ toString " out of bounds for length " ++ toString n : String) → vx_Note p l e R s m args below meth c H locs cells slots Q (F0 m pc ls rest) "java/lang/ArrayIndexOutOfBoundsException" tx) : W p l e R s m args below meth c H locs cells slots Q (F0 m pc ls (.double x :: .int i :: .ref a :: rest)) := by
  intro T hT X
  obtain ⟨t, st, q⟩ := k _ rfl T hT X
  refine ⟨t, ?_, q⟩
  have h1 := X.dastoreOut hexec (by rw [hT]; exact hP q0 _ ha) ((hK.2 t0 _ ht).1 n (fun j => .double (f j))) (j := i) (by show (i < 0 ∨ (arrV _ _ _).slots.size ≤ _); rw [arrV_size]; exact Classical.byContradiction hout) (g := F0 m pc ls (.double x :: .int i :: .ref a :: rest)) rfl (rest := rest) rfl (by rw [hb]; exact hdg) t
  simp only [arrV_size] at h1
  exact h1 st
theorem vx_arraylengthN (hexec : p.tables.exec = Jvm.exec) (hb : c.code = cc) (hdg : decode cc pc = .ok (.arraylength, 1)) (k : vx_NoteN p l e R s m args below meth c H locs cells slots Q (F0 m pc ls rest)) : W p l e R s m args below meth c H locs cells slots Q (F0 m pc ls (.null :: rest)) := by
  intro T hT X
  obtain ⟨t, st, q⟩ := k T hT X
  exact ⟨t, X.arraylengthNull hexec (g := F0 m pc ls (.null :: rest)) rfl (rest := rest) rfl (by rw [hb]; exact hdg) t st, q⟩
theorem vx_ialoadN (hexec : p.tables.exec = Jvm.exec) (hb : c.code = cc) {i : Int32} (hdg : decode cc pc = .ok (.iaload, 1)) (k : vx_NoteN p l e R s m args below meth c H locs cells slots Q (F0 m pc ls rest)) : W p l e R s m args below meth c H locs cells slots Q (F0 m pc ls (.int i :: .null :: rest)) := by
  intro T hT X
  obtain ⟨t, st, q⟩ := k T hT X
  exact ⟨t, X.ialoadNull hexec (g := F0 m pc ls (.int i :: .null :: rest)) rfl (rest := rest) rfl (by rw [hb]; exact hdg) t st, q⟩
theorem vx_laloadN (hexec : p.tables.exec = Jvm.exec) (hb : c.code = cc) {i : Int32} (hdg : decode cc pc = .ok (.laload, 1)) (k : vx_NoteN p l e R s m args below meth c H locs cells slots Q (F0 m pc ls rest)) : W p l e R s m args below meth c H locs cells slots Q (F0 m pc ls (.int i :: .null :: rest)) := by
  intro T hT X
  obtain ⟨t, st, q⟩ := k T hT X
  exact ⟨t, X.laloadNull hexec (g := F0 m pc ls (.int i :: .null :: rest)) rfl (rest := rest) rfl (by rw [hb]; exact hdg) t st, q⟩
theorem vx_faloadN (hexec : p.tables.exec = Jvm.exec) (hb : c.code = cc) {i : Int32} (hdg : decode cc pc = .ok (.faload, 1)) (k : vx_NoteN p l e R s m args below meth c H locs cells slots Q (F0 m pc ls rest)) : W p l e R s m args below meth c H locs cells slots Q (F0 m pc ls (.int i :: .null :: rest)) := by
  intro T hT X
  obtain ⟨t, st, q⟩ := k T hT X
  exact ⟨t, X.faloadNull hexec (g := F0 m pc ls (.int i :: .null :: rest)) rfl (rest := rest) rfl (by rw [hb]; exact hdg) t st, q⟩
theorem vx_daloadN (hexec : p.tables.exec = Jvm.exec) (hb : c.code = cc) {i : Int32} (hdg : decode cc pc = .ok (.daload, 1)) (k : vx_NoteN p l e R s m args below meth c H locs cells slots Q (F0 m pc ls rest)) : W p l e R s m args below meth c H locs cells slots Q (F0 m pc ls (.int i :: .null :: rest)) := by
  intro T hT X
  obtain ⟨t, st, q⟩ := k T hT X
  exact ⟨t, X.daloadNull hexec (g := F0 m pc ls (.int i :: .null :: rest)) rfl (rest := rest) rfl (by rw [hb]; exact hdg) t st, q⟩
theorem vx_aaloadN (hexec : p.tables.exec = Jvm.exec) (hb : c.code = cc) {i : Int32} (hdg : decode cc pc = .ok (.aaload, 1)) (k : vx_NoteN p l e R s m args below meth c H locs cells slots Q (F0 m pc ls rest)) : W p l e R s m args below meth c H locs cells slots Q (F0 m pc ls (.int i :: .null :: rest)) := by
  intro T hT X
  obtain ⟨t, st, q⟩ := k T hT X
  exact ⟨t, X.aaloadNull hexec (g := F0 m pc ls (.int i :: .null :: rest)) rfl (rest := rest) rfl (by rw [hb]; exact hdg) t st, q⟩
theorem vx_baloadN (hexec : p.tables.exec = Jvm.exec) (hb : c.code = cc) {i : Int32} (hdg : decode cc pc = .ok (.baload, 1)) (k : vx_NoteN p l e R s m args below meth c H locs cells slots Q (F0 m pc ls rest)) : W p l e R s m args below meth c H locs cells slots Q (F0 m pc ls (.int i :: .null :: rest)) := by
  intro T hT X
  obtain ⟨t, st, q⟩ := k T hT X
  exact ⟨t, X.baloadNull hexec (g := F0 m pc ls (.int i :: .null :: rest)) rfl (rest := rest) rfl (by rw [hb]; exact hdg) t st, q⟩
theorem vx_caloadN (hexec : p.tables.exec = Jvm.exec) (hb : c.code = cc) {i : Int32} (hdg : decode cc pc = .ok (.caload, 1)) (k : vx_NoteN p l e R s m args below meth c H locs cells slots Q (F0 m pc ls rest)) : W p l e R s m args below meth c H locs cells slots Q (F0 m pc ls (.int i :: .null :: rest)) := by
  intro T hT X
  obtain ⟨t, st, q⟩ := k T hT X
  exact ⟨t, X.caloadNull hexec (g := F0 m pc ls (.int i :: .null :: rest)) rfl (rest := rest) rfl (by rw [hb]; exact hdg) t st, q⟩
theorem vx_saloadN (hexec : p.tables.exec = Jvm.exec) (hb : c.code = cc) {i : Int32} (hdg : decode cc pc = .ok (.saload, 1)) (k : vx_NoteN p l e R s m args below meth c H locs cells slots Q (F0 m pc ls rest)) : W p l e R s m args below meth c H locs cells slots Q (F0 m pc ls (.int i :: .null :: rest)) := by
  intro T hT X
  obtain ⟨t, st, q⟩ := k T hT X
  exact ⟨t, X.saloadNull hexec (g := F0 m pc ls (.int i :: .null :: rest)) rfl (rest := rest) rfl (by rw [hb]; exact hdg) t st, q⟩
theorem vx_iastoreN (hexec : p.tables.exec = Jvm.exec) (hb : c.code = cc) {x : Int32} {i : Int32} (hdg : decode cc pc = .ok (.iastore, 1)) (k : vx_NoteN p l e R s m args below meth c H locs cells slots Q (F0 m pc ls rest)) : W p l e R s m args below meth c H locs cells slots Q (F0 m pc ls (.int x :: .int i :: .null :: rest)) := by
  intro T hT X
  obtain ⟨t, st, q⟩ := k T hT X
  exact ⟨t, X.iastoreNull hexec (g := F0 m pc ls (.int x :: .int i :: .null :: rest)) rfl (rest := rest) rfl (by rw [hb]; exact hdg) t st, q⟩
theorem vx_lastoreN (hexec : p.tables.exec = Jvm.exec) (hb : c.code = cc) {x : Int64} {i : Int32} (hdg : decode cc pc = .ok (.lastore, 1)) (k : vx_NoteN p l e R s m args below meth c H locs cells slots Q (F0 m pc ls rest)) : W p l e R s m args below meth c H locs cells slots Q (F0 m pc ls (.long x :: .int i :: .null :: rest)) := by
  intro T hT X
  obtain ⟨t, st, q⟩ := k T hT X
  exact ⟨t, X.lastoreNull hexec (g := F0 m pc ls (.long x :: .int i :: .null :: rest)) rfl (rest := rest) rfl (by rw [hb]; exact hdg) t st, q⟩
theorem vx_fastoreN (hexec : p.tables.exec = Jvm.exec) (hb : c.code = cc) {x : UInt32} {i : Int32} (hdg : decode cc pc = .ok (.fastore, 1)) (k : vx_NoteN p l e R s m args below meth c H locs cells slots Q (F0 m pc ls rest)) : W p l e R s m args below meth c H locs cells slots Q (F0 m pc ls (.float x :: .int i :: .null :: rest)) := by
  intro T hT X
  obtain ⟨t, st, q⟩ := k T hT X
  exact ⟨t, X.fastoreNull hexec (g := F0 m pc ls (.float x :: .int i :: .null :: rest)) rfl (rest := rest) rfl (by rw [hb]; exact hdg) t st, q⟩
theorem vx_dastoreN (hexec : p.tables.exec = Jvm.exec) (hb : c.code = cc) {x : UInt64} {i : Int32} (hdg : decode cc pc = .ok (.dastore, 1)) (k : vx_NoteN p l e R s m args below meth c H locs cells slots Q (F0 m pc ls rest)) : W p l e R s m args below meth c H locs cells slots Q (F0 m pc ls (.double x :: .int i :: .null :: rest)) := by
  intro T hT X
  obtain ⟨t, st, q⟩ := k T hT X
  exact ⟨t, X.dastoreNull hexec (g := F0 m pc ls (.double x :: .int i :: .null :: rest)) rfl (rest := rest) rfl (by rw [hb]; exact hdg) t st, q⟩
theorem vx_bastoreN (hexec : p.tables.exec = Jvm.exec) (hb : c.code = cc) {x : Int32} {i : Int32} (hdg : decode cc pc = .ok (.bastore, 1)) (k : vx_NoteN p l e R s m args below meth c H locs cells slots Q (F0 m pc ls rest)) : W p l e R s m args below meth c H locs cells slots Q (F0 m pc ls (.int x :: .int i :: .null :: rest)) := by
  intro T hT X
  obtain ⟨t, st, q⟩ := k T hT X
  exact ⟨t, X.bastoreNull hexec (g := F0 m pc ls (.int x :: .int i :: .null :: rest)) rfl (rest := rest) rfl (by rw [hb]; exact hdg) t st, q⟩
theorem vx_castoreN (hexec : p.tables.exec = Jvm.exec) (hb : c.code = cc) {x : Int32} {i : Int32} (hdg : decode cc pc = .ok (.castore, 1)) (k : vx_NoteN p l e R s m args below meth c H locs cells slots Q (F0 m pc ls rest)) : W p l e R s m args below meth c H locs cells slots Q (F0 m pc ls (.int x :: .int i :: .null :: rest)) := by
  intro T hT X
  obtain ⟨t, st, q⟩ := k T hT X
  exact ⟨t, X.castoreNull hexec (g := F0 m pc ls (.int x :: .int i :: .null :: rest)) rfl (rest := rest) rfl (by rw [hb]; exact hdg) t st, q⟩
theorem vx_sastoreN (hexec : p.tables.exec = Jvm.exec) (hb : c.code = cc) {x : Int32} {i : Int32} (hdg : decode cc pc = .ok (.sastore, 1)) (k : vx_NoteN p l e R s m args below meth c H locs cells slots Q (F0 m pc ls rest)) : W p l e R s m args below meth c H locs cells slots Q (F0 m pc ls (.int x :: .int i :: .null :: rest)) := by
  intro T hT X
  obtain ⟨t, st, q⟩ := k T hT X
  exact ⟨t, X.sastoreNull hexec (g := F0 m pc ls (.int x :: .int i :: .null :: rest)) rfl (rest := rest) rfl (by rw [hb]; exact hdg) t st, q⟩
theorem vx_invokeN {own C : String} {index maxL : Nat} {y : MethodName} {bytes : ByteArray} {ret : Option FieldType} (hexec : p.tables.exec = Jvm.exec) (hb : c.code = cc) (hown : s.vm.findClass own = some m.cls) (hlink : (Cond.methodLink own index y).before args s = true) (hinst : (Cond.instanceMethod y).before args s = true) (hcode : (Cond.code y bytes maxL ret).before args s = true) (hsel : (Cond.selects C y y).before args s = true)
    (hx : y.cls ≠ "java/lang/invoke/MethodHandle" ∧ y.cls ≠ "java/lang/invoke/VarHandle") {As : List Value} (hlen : (parseMethodDescriptor y.desc).map (fun d => d.parameters.length) = some As.length) (hdg : decode cc pc = .ok (.invokevirtual index, 3))
    (k : vx_NoteN p l e R s m args below meth c H locs cells slots Q (F0 m pc ls rest)) {st0 : List Value} (hst : st0 = As.reverse ++ .null :: rest) : W p l e R s m args below meth c H locs cells slots Q (F0 m pc ls st0) := by
  intro T hT X
  obtain ⟨r0, r, hn, hrm, hstR, hsigR⟩ := va_Decl.of hinst hcode
  obtain ⟨c2, r2, m2, q1, q2, q3, q4, kP, hkP, hkPi⟩ := Cond.selects_spec hsel
  cases hn.symm.trans q3
  have hl9 : As.length = r.sig.parameters.length := by
    rw [hsigR] at hlen
    exact (Option.some.inj hlen).symm
  obtain ⟨vm', X1, st1⟩ := X.invokevirtualNull hexec hown hlink hn hrm hstR hkP hkPi hx (g := F0 m pc ls st0) rfl (argsL := As) (rest := rest) hl9 hst (by rw [hb]; exact hdg)
  obtain ⟨t, st, q⟩ := k (T.setVm vm') hT X1
  exact ⟨t, st1 t st, q⟩
theorem vx_newarrayZ {atype : ArrayType} (hexec : p.tables.exec = Jvm.exec) (hb : c.code = cc) {n : Int32} (h0 : n < 0) (hdg : decode cc pc = .ok (.newarray atype, 2)) (k : ∀ tx : String, tx = toString n → vx_Note p l e R s m args below meth c H locs cells slots Q (F0 m pc ls rest) "java/lang/NegativeArraySizeException" tx) : W p l e R s m args below meth c H locs cells slots Q (F0 m pc ls (.int n :: rest)) := by
  intro T hT X
  obtain ⟨t, st, q⟩ := k _ rfl T hT X
  exact ⟨t, X.newarrayNegative hexec (g := F0 m pc ls (.int n :: rest)) rfl h0 (rest := rest) rfl (by rw [hb]; exact hdg) t st, q⟩
end
end VXM
/-! ===== END ===== -/
/-! ===== BEGIN an exception as an object: made, kept, thrown later (no traces kept) ===== -/
section VXK
variable {p : Program} {l : Launch} {e : Env} {R : Room} {s : State} {m₀ : MethodId} {args : Array Value} {below : List Frame} {meth : Method} {c : Code} {W : State} {locs : List Loc} {cells slots : Nat}
set_option maxHeartbeats 1000000 in
theorem vx_ctorMadeS (X : Stand p l e R s m₀ args below meth c W locs cells slots) (hexec : p.tables.exec = Jvm.exec) (htr : e.platform.stackTraces = false) {own cls : String} {names : List String} {ic : Nat}
    (hown : s.vm.findClass own = some m₀.cls) (hcls : Bundle.fit cls = true) (hnames : ∀ n ∈ names, Bundle.fit n = true)
    (h : ∀ a ∈ Bundle.ownAtoms own ic cls names, a.before args s = true)
    (hlocs : ∀ x ∈ locs, ∀ cell, s.heap[x.base]? = some cell → cell.vm.isStatics = false)
    {a : Addr} {cX : ClassId} {kX : Class} (hfoundX : s.vm.findClass cls = some cX) (hkX : s.vm.classes[cX]? = some kX) (hcell : W.heap[a]? = some (freshCell cX kX)) (hnew : s.heap.size ≤ a)
    {msg : Value} (hmsg : msg.isRef = true)
    {g : JFrame} (hg : g.method = m₀) (hsize : g.locals.size = c.maxLocals) {rest : List Value} (hstack : g.stack = msg :: .ref a :: .ref a :: rest)
    (hd6 : decode c.code g.pc = .ok (.invokespecial ic, 3))
    (hRframes : names.length + 3 < R.frames) (hRlocals : 2 * g.monitorRoom + ((Value.ref a :: rest).map fun v => v.category).sum + (13 * (names.length + 1) + 42) ≤ R.locals) :
    ∃ (V : State) (ce : Cell) (L : List Loc), Stand p l e R s m₀ args below meth c (V.setCell a ce) (locs ++ L) cells slots ∧ (∀ y ∈ L, y.base = a) ∧ a < V.heap.size ∧ ce.cls = cX ∧ ce.vm = .none ∧
      ∀ target, Steps p.tables e below ((V.setCell a ce).setTop { g with stack := .ref a :: rest, pc := g.pc + 3 }) target → Steps p.tables e below (W.setTop g) target := by
  have howns : e.platform.frameOwnsMonitors = true := by rw [X.admits.platform]
  have hfin : e.platform.finalization = false := by rw [X.admits.platform]
  have hpl : e.platform.magicAccessors = ({} : Platform).magicAccessors := by rw [X.admits.platform]
  have a' : ∀ x, x ∈ Bundle.ownAtoms own ic cls names → x.holds args s none s [] = true := fun x hx => h x hx
  obtain ⟨T, Z0, L, -, Y⟩ := ThrowableC.of_atoms (args := args) howns hfin hpl (fun x hx => h x (by simp [Bundle.ownAtoms, hx]))
  obtain ⟨Z, M, LZ, LM, hnZ⟩ := Init0T.ofS_atoms (args := args) hpl L Y (fun x hx => h x (by simp [Bundle.ownAtoms, hx]))
  obtain ⟨P1, Ps, hlen, L1, hL, hP1m, hlink1, hlink⟩ := Bundle.chainS (args := args) hpl hnZ names cls hcls hnames (fun x hx => h x (by simp [Bundle.ownAtoms, hx]))
  have hfound : s.vm.findClass cls = some P1.m.cls := findClass_of_methodNamed hP1m
  cases Option.some.inj (hfoundX.symm.trans hfound)
  obtain ⟨c1, kX', hc1, hk, hord, -, -, hn6⟩ := Cond.instantiable_spec (a' (.instantiable cls 6) (by simp [Bundle.ownAtoms]))
  cases Option.some.inj (hc1.symm.trans hfound)
  cases Option.some.inj (hkX.symm.trans hk)
  have hsel0 : selectMethod e.platform s.vm P1.m.cls T.fill0 = .method T.fill0 := by
    obtain ⟨c2, r2, m2, q1, q2, q3, q4, -⟩ := Cond.selects_spec (a' (.selects cls Bundle.tFill0 Bundle.tFill0) (by simp [Bundle.ownAtoms]))
    cases Option.some.inj (q1.symm.trans hfound)
    cases Option.some.inj (q2.symm.trans (State.methodFound?_of_named Y.fill0 (by decide)))
    cases Option.some.inj (q3.symm.trans Y.fill0)
    rw [Launch.admits_selectMethod X.admits]; exact q4
  have hselF : selectMethod e.platform s.vm P1.m.cls T.fill = .method T.fill := by
    obtain ⟨c2, r2, m2, q1, q2, q3, q4, -⟩ := Cond.selects_spec (a' (.selects cls Bundle.tFill Bundle.tFill) (by simp [Bundle.ownAtoms]))
    cases Option.some.inj (q1.symm.trans hfound)
    cases Option.some.inj (q2.symm.trans (State.methodFound?_of_named Y.fill (by decide)))
    cases Option.some.inj (q3.symm.trans Y.fill)
    rw [Launch.admits_selectMethod X.admits]; exact q4
  obtain ⟨cellS0, hcS0, hiss⟩ := Y.statics
  obtain ⟨u0, hu0⟩ := Cond.staticRefV Y.unassigned L.unassignedStatic L.statics hcS0 hiss (a' (.isRef (.static Bundle.tN "UNASSIGNED_STACK" Bundle.steD)) (by simp [Bundle.ownAtoms]))
  obtain ⟨sen, hsen⟩ := Cond.staticRefV Y.sentinel L.sentinelStatic L.statics hcS0 hiss (a' (.isRef (.static Bundle.tN "SUPPRESSED_SENTINEL" Bundle.listD)) (by simp [Bundle.ownAtoms]))
  obtain ⟨ci198, i198, fB, hk198, hg198, ha198, hsB, -, hnB, htB, hffB⟩ := Cond.ownField (t := .object "java/lang/Object") Y.found L.cls (by decide +kernel) (a' (.fieldLink Bundle.tN 198 Bundle.tN "backtrace" "Ljava/lang/Object;") (by simp [Bundle.ownAtoms])) (a' (.lays Bundle.tN Bundle.tN "backtrace" "Ljava/lang/Object;") (by simp [Bundle.ownAtoms])) e.platform hpl
  obtain ⟨cellS, hcS', heS, -, hkeep⟩ := X.same.2.2.2.2.2 T.aS cellS0 hcS0
  have hcellS : W.heap[T.aS]? = some cellS := hcS'
  have hout' : ∀ i, (⟨T.aS, i⟩ : Loc) ∉ locs := fun i hmem => by
    have := hlocs _ hmem cellS0 hcS0
    rw [hiss] at this; cases this
  have hknownS : cellS.vm ≠ .unknown := by
    rw [heS]; intro hu
    rw [show cellS0.vm = .unknown from hu] at hiss
    cases hiss
  have hneS : T.aS ≠ a := Nat.ne_of_lt (Nat.lt_of_lt_of_le (Array.getElem?_eq_some_iff.mp hcS0).1 hnew)
  obtain ⟨iM, hffM⟩ := Y.msg
  obtain ⟨tyC, dC, hdC, hdnC⟩ := Cond.laysAt hfound hk Y.cause (a' (.lays cls Bundle.tN "cause" "Ljava/lang/Throwable;") (by simp [Bundle.ownAtoms]))
  obtain ⟨tyS, dS, hdS, hdnS⟩ := Cond.laysAt hfound hk Y.stack (a' (.lays cls Bundle.tN "stackTrace" Bundle.steD) (by simp [Bundle.ownAtoms]))
  obtain ⟨tyP, dP, hdP, hdnP⟩ := Cond.laysAt hfound hk Y.supp (a' (.lays cls Bundle.tN "suppressedExceptions" Bundle.listD) (by simp [Bundle.ownAtoms]))
  obtain ⟨tyM, dM, hdM, hdnM⟩ := Cond.laysAt hfound hk hffM (a' (.lays cls Bundle.tN "detailMessage" "Ljava/lang/String;") (by simp [Bundle.ownAtoms]))
  obtain ⟨tyB, dB, hdB, hdnB⟩ := Cond.laysAt hfound hk hffB (a' (.lays cls Bundle.tN "backtrace" "Ljava/lang/Object;") (by simp [Bundle.ownAtoms]))
  have bC := Cond.laysApart hdB hdC hdnB hdnC (by rw [hnB, Y.causeName]; decide)
  have bS := Cond.laysApart hdB hdS hdnB hdnS (by rw [hnB, Y.stackName]; decide)
  have bP := Cond.laysApart hdB hdP hdnB hdnP (by rw [hnB, Y.suppName]; decide)
  have hskip : SkipFacts T e.platform s (fun u => u) u0 ((preparedCellV T.toThrowableT (freshCell P1.m.cls kX) a u0 sen).withEntry W.cur) :=
    ⟨{ ci198 := ci198, i198 := i198, fBack := fB }, ⟨hk198, hg198, ha198, hsB⟩, by
      have := fresh_default (c := P1.m.cls) tyB
      rw [htB] at this
      simpa [preparedCellV, Cell.setSlot, Cell.withEntry, Array.getElem?_setIfInBounds, bC, bS, bP, bC.symm, bS.symm, bP.symm, defaultValue] using this, fun _ _ => rfl⟩
  obtain ⟨tm, methC, cdC, kC, vm₁, hnC, -, -, -, -, -, -, -, hW₁, st1⟩ := Steps.initColdS (tb := p.tables) (e := e) (below := below) (s := s) (U := W) X.here hexec X.warmed hpl hown (t := Bundle.initS cls) rfl rfl (Bundle.fit_spec hcls).2
    (a' (.methodLink own ic (Bundle.initS cls)) (by simp [Bundle.ownAtoms])) (h (.instanceMethod (Bundle.initS cls)) (by cases names <;> simp [Bundle.ownAtoms, Bundle.chainSAtoms, Bundle.passSAtoms])) (bytes := Bundle.six) (maxL := 2) (h (.code (Bundle.initS cls) Bundle.six 2 none) (by cases names <;> simp [Bundle.ownAtoms, Bundle.chainSAtoms, Bundle.passSAtoms]))
    (f := g) hg (a := a) (msg := msg) (rest := .ref a :: rest) hstack hd6
  cases Option.some.inj (hnC.symm.trans hP1m)
  have X₁ := X.noted hW₁
  obtain ⟨vm₂, X₂, st2⟩ := X₁.ctorMessageOffV hexec (g := { g with stack := .ref a :: rest }) hg hsize T L Z LZ M LM (P1 :: Ps)
    (fun P hP => by rcases List.mem_cons.mp hP with rfl | hP; exact L1; exact hL P hP) ⟨hlink1, hlink⟩ (u0 := u0) (sen := sen) (self := a) hmsg (cell := freshCell P1.m.cls kX) (cellS := cellS)
    hcell (fun _ => by simp) (by simp) rfl rfl hsel0 hselF hcellS hneS hknownS (by rw [hkeep _ (hout' _)]; exact hu0) (by rw [hkeep _ (hout' _)]; exact hsen)
    (Takes.of_laid hk hord tyC (by rw [Y.causeType]; rfl)) (Takes.of_laid hk hord tyS (by rw [Y.stackType]; exact fits_refV_array _ u0)) (Takes.of_laid hk hord tyP (by rw [Y.suppType]; exact fits_refV_object _ sen))
    (Takes.of_laid hk hord tyM (by rw [Y.msgType]; exact fits_refV_object _ ⟨msg, hmsg⟩)) Y.objLocals hskip htr [] hd6
    (by simp only [List.length_cons, hlen]; omega) (by simp only [List.length_cons, hlen]; exact hRlocals)
  have hlt : a < ((W.setVm vm₁).setVm vm₂).heap.size := (Array.getElem?_eq_some_iff.mp hcell).1
  refine ⟨(W.setVm vm₁).setVm vm₂, _, _, X₂, fun y hy => ?_, hlt, rfl, rfl, fun target hwalk => st1 _ (fun acts => ?_)⟩
  · simp only [List.mem_cons, List.not_mem_nil, or_false] at hy
    rcases hy with rfl | rfl | rfl | rfl | rfl <;> rfl
  · rw [doInvoke_state]
    exact st2 _ hwalk
set_option maxHeartbeats 1000000 in
theorem vx_ctorMade0 (X : Stand p l e R s m₀ args below meth c W locs cells slots) (hexec : p.tables.exec = Jvm.exec) (htr : e.platform.stackTraces = false) {own cls : String} {names : List String} {ic : Nat}
    (hown : s.vm.findClass own = some m₀.cls) (hcls : Bundle.fit cls = true) (hnames : ∀ n ∈ names, Bundle.fit n = true)
    (h : ∀ a ∈ Bundle.ownAtoms0 own ic cls names, a.before args s = true)
    (hlocs : ∀ x ∈ locs, ∀ cell, s.heap[x.base]? = some cell → cell.vm.isStatics = false)
    {a : Addr} {cX : ClassId} {kX : Class} (hfoundX : s.vm.findClass cls = some cX) (hkX : s.vm.classes[cX]? = some kX) (hcell : W.heap[a]? = some (freshCell cX kX)) (hnew : s.heap.size ≤ a)
    {g : JFrame} (hg : g.method = m₀) (hsize : g.locals.size = c.maxLocals) {rest : List Value} (hstack : g.stack = .ref a :: .ref a :: rest)
    (hd6 : decode c.code g.pc = .ok (.invokespecial ic, 3))
    (hRframes : names.length + 3 < R.frames) (hRlocals : 2 * g.monitorRoom + ((Value.ref a :: rest).map fun v => v.category).sum + (13 * (names.length + 1) + 41) ≤ R.locals) :
    ∃ (V : State) (ce : Cell) (L : List Loc), Stand p l e R s m₀ args below meth c (V.setCell a ce) (locs ++ L) cells slots ∧ (∀ y ∈ L, y.base = a) ∧ a < V.heap.size ∧ ce.cls = cX ∧ ce.vm = .none ∧
      ∀ target, Steps p.tables e below ((V.setCell a ce).setTop { g with stack := .ref a :: rest, pc := g.pc + 3 }) target → Steps p.tables e below (W.setTop g) target := by
  have howns : e.platform.frameOwnsMonitors = true := by rw [X.admits.platform]
  have hfin : e.platform.finalization = false := by rw [X.admits.platform]
  have hpl : e.platform.magicAccessors = ({} : Platform).magicAccessors := by rw [X.admits.platform]
  have a' : ∀ x, x ∈ Bundle.ownAtoms0 own ic cls names → x.holds args s none s [] = true := fun x hx => h x hx
  obtain ⟨T, Z, L, LZ, Y⟩ := ThrowableC.of_atoms (args := args) howns hfin hpl (fun x hx => h x (by simp [Bundle.ownAtoms0, hx]))
  obtain ⟨P1, Ps, hlen, L1, hL, hP1m, hlink1, hlink⟩ := Bundle.chain0 (args := args) hpl Y.init0 names cls hcls hnames (fun x hx => h x (by simp [Bundle.ownAtoms0, hx]))
  have hfound : s.vm.findClass cls = some P1.m.cls := findClass_of_methodNamed hP1m
  cases Option.some.inj (hfoundX.symm.trans hfound)
  obtain ⟨c1, kX', hc1, hk, hord, -, -, hn6⟩ := Cond.instantiable_spec (a' (.instantiable cls 6) (by simp [Bundle.ownAtoms0]))
  cases Option.some.inj (hc1.symm.trans hfound)
  cases Option.some.inj (hkX.symm.trans hk)
  have hsel0 : selectMethod e.platform s.vm P1.m.cls T.fill0 = .method T.fill0 := by
    obtain ⟨c2, r2, m2, q1, q2, q3, q4, -⟩ := Cond.selects_spec (a' (.selects cls Bundle.tFill0 Bundle.tFill0) (by simp [Bundle.ownAtoms0]))
    cases Option.some.inj (q1.symm.trans hfound)
    cases Option.some.inj (q2.symm.trans (State.methodFound?_of_named Y.fill0 (by decide)))
    cases Option.some.inj (q3.symm.trans Y.fill0)
    rw [Launch.admits_selectMethod X.admits]; exact q4
  have hselF : selectMethod e.platform s.vm P1.m.cls T.fill = .method T.fill := by
    obtain ⟨c2, r2, m2, q1, q2, q3, q4, -⟩ := Cond.selects_spec (a' (.selects cls Bundle.tFill Bundle.tFill) (by simp [Bundle.ownAtoms0]))
    cases Option.some.inj (q1.symm.trans hfound)
    cases Option.some.inj (q2.symm.trans (State.methodFound?_of_named Y.fill (by decide)))
    cases Option.some.inj (q3.symm.trans Y.fill)
    rw [Launch.admits_selectMethod X.admits]; exact q4
  obtain ⟨cellS0, hcS0, hiss⟩ := Y.statics
  obtain ⟨u0, hu0⟩ := Cond.staticRefV Y.unassigned L.unassignedStatic L.statics hcS0 hiss (a' (.isRef (.static Bundle.tN "UNASSIGNED_STACK" Bundle.steD)) (by simp [Bundle.ownAtoms0]))
  obtain ⟨sen, hsen⟩ := Cond.staticRefV Y.sentinel L.sentinelStatic L.statics hcS0 hiss (a' (.isRef (.static Bundle.tN "SUPPRESSED_SENTINEL" Bundle.listD)) (by simp [Bundle.ownAtoms0]))
  obtain ⟨ci198, i198, fB, hk198, hg198, ha198, hsB, -, hnB, htB, hffB⟩ := Cond.ownField (t := .object "java/lang/Object") Y.found L.cls (by decide +kernel) (a' (.fieldLink Bundle.tN 198 Bundle.tN "backtrace" "Ljava/lang/Object;") (by simp [Bundle.ownAtoms0])) (a' (.lays Bundle.tN Bundle.tN "backtrace" "Ljava/lang/Object;") (by simp [Bundle.ownAtoms0])) e.platform hpl
  obtain ⟨cellS, hcS', heS, -, hkeep⟩ := X.same.2.2.2.2.2 T.aS cellS0 hcS0
  have hcellS : W.heap[T.aS]? = some cellS := hcS'
  have hout' : ∀ i, (⟨T.aS, i⟩ : Loc) ∉ locs := fun i hmem => by
    have := hlocs _ hmem cellS0 hcS0
    rw [hiss] at this; cases this
  have hknownS : cellS.vm ≠ .unknown := by
    rw [heS]; intro hu
    rw [show cellS0.vm = .unknown from hu] at hiss
    cases hiss
  have hneS : T.aS ≠ a := Nat.ne_of_lt (Nat.lt_of_lt_of_le (Array.getElem?_eq_some_iff.mp hcS0).1 hnew)
  obtain ⟨iM, hffM⟩ := Y.msg
  obtain ⟨tyC, dC, hdC, hdnC⟩ := Cond.laysAt hfound hk Y.cause (a' (.lays cls Bundle.tN "cause" "Ljava/lang/Throwable;") (by simp [Bundle.ownAtoms0]))
  obtain ⟨tyS, dS, hdS, hdnS⟩ := Cond.laysAt hfound hk Y.stack (a' (.lays cls Bundle.tN "stackTrace" Bundle.steD) (by simp [Bundle.ownAtoms0]))
  obtain ⟨tyP, dP, hdP, hdnP⟩ := Cond.laysAt hfound hk Y.supp (a' (.lays cls Bundle.tN "suppressedExceptions" Bundle.listD) (by simp [Bundle.ownAtoms0]))
  obtain ⟨tyM, dM, hdM, hdnM⟩ := Cond.laysAt hfound hk hffM (a' (.lays cls Bundle.tN "detailMessage" "Ljava/lang/String;") (by simp [Bundle.ownAtoms0]))
  obtain ⟨tyB, dB, hdB, hdnB⟩ := Cond.laysAt hfound hk hffB (a' (.lays cls Bundle.tN "backtrace" "Ljava/lang/Object;") (by simp [Bundle.ownAtoms0]))
  have bC := Cond.laysApart hdB hdC hdnB hdnC (by rw [hnB, Y.causeName]; decide)
  have bS := Cond.laysApart hdB hdS hdnB hdnS (by rw [hnB, Y.stackName]; decide)
  have bP := Cond.laysApart hdB hdP hdnB hdnP (by rw [hnB, Y.suppName]; decide)
  have hskip : SkipFacts T e.platform s (fun u => u) u0 ((preparedCellV T.toThrowableT (freshCell P1.m.cls kX) a u0 sen).withEntry W.cur) :=
    ⟨{ ci198 := ci198, i198 := i198, fBack := fB }, ⟨hk198, hg198, ha198, hsB⟩, by
      have := fresh_default (c := P1.m.cls) tyB
      rw [htB] at this
      simpa [preparedCellV, Cell.setSlot, Cell.withEntry, Array.getElem?_setIfInBounds, bC, bS, bP, bC.symm, bS.symm, bP.symm, defaultValue] using this, fun _ _ => rfl⟩
  obtain ⟨tm, methC, cdC, kC, vm₁, hnC, -, -, -, -, -, -, -, hW₁, st1⟩ := Steps.initCold (tb := p.tables) (e := e) (below := below) (s := s) (U := W) X.here hexec X.warmed hpl hown (t := Bundle.init0 cls) rfl rfl (Bundle.fit_spec hcls).2
    (a' (.methodLink own ic (Bundle.init0 cls)) (by simp [Bundle.ownAtoms0])) (h (.instanceMethod (Bundle.init0 cls)) (by cases names <;> simp [Bundle.ownAtoms0, Bundle.chain0Atoms, Bundle.passAtoms])) (bytes := Bundle.five) (maxL := 1) (h (.code (Bundle.init0 cls) Bundle.five 1 none) (by cases names <;> simp [Bundle.ownAtoms0, Bundle.chain0Atoms, Bundle.passAtoms]))
    (f := g) hg (a := a) (rest := .ref a :: rest) hstack hd6
  cases Option.some.inj (hnC.symm.trans hP1m)
  have X₁ := X.noted hW₁
  obtain ⟨vm₂, X₂, st2⟩ := X₁.ctorPlainOffV hexec (g := { g with stack := .ref a :: rest }) hg hsize T L Z LZ (P1 :: Ps)
    (fun P hP => by rcases List.mem_cons.mp hP with rfl | hP; exact L1; exact hL P hP) ⟨hlink1, hlink⟩ (u0 := u0) (sen := sen) (self := a) (cell := freshCell P1.m.cls kX) (cellS := cellS)
    hcell (fun _ => by simp) (by simp) rfl rfl hsel0 hselF hcellS hneS hknownS (by rw [hkeep _ (hout' _)]; exact hu0) (by rw [hkeep _ (hout' _)]; exact hsen)
    (Takes.of_laid hk hord tyC (by rw [Y.causeType]; rfl)) (Takes.of_laid hk hord tyS (by rw [Y.stackType]; exact fits_refV_array _ u0)) (Takes.of_laid hk hord tyP (by rw [Y.suppType]; exact fits_refV_object _ sen)) Y.objLocals hskip htr [] hd6
    (by simp only [List.length_cons, hlen]; omega) (by simp only [List.length_cons, hlen]; exact hRlocals)
  have hlt : a < ((W.setVm vm₁).setVm vm₂).heap.size := (Array.getElem?_eq_some_iff.mp hcell).1
  refine ⟨(W.setVm vm₁).setVm vm₂, _, _, X₂, fun y hy => ?_, hlt, rfl, rfl, fun target hwalk => st1 _ (fun acts => ?_)⟩
  · simp only [List.mem_cons, List.not_mem_nil, or_false] at hy
    rcases hy with rfl | rfl | rfl | rfl <;> rfl
  · rw [doInvoke_state]
    exact st2 _ hwalk
end VXK
section VXK2
variable {p : Program} {l : Launch} {e : Env} {R : Room} {s : State} {m : MethodId} {args : Array Value} {below : List Frame} {meth : Method} {c : Code} {H : Heap} {locs : List Loc} {cells slots : Nat} {Q : State → Prop}
variable {ls : Array Slot} {rest : List Value} {D : va_G} {cl : List vw_C} {tys : List (ClassId × FieldType)} {ws : va_W}
/-- 'new E("text")' that isn't thrown at once: the object goes on the stack -/
theorem vx_makeS {cc : ByteArray} {pc : Nat} (hexec : p.tables.exec = Jvm.exec) (hb : c.code = cc) (hl : l.stackTraces = false) {own cls text : String} {names : List String} {ik is ic sa ci : Nat} {A : Nat → Prop} {T0 : u_T}
    (hown : s.vm.findClass own = some m.cls) (hcls : Bundle.fit cls = true) (hnames : ∀ n ∈ names, Bundle.fit n = true)
    (hk : (Cond.classLink own ik cls).before args s = true) (hini : (Cond.initialized cls).before args s = true) (hstr : vk_R own is text sa s) (hat : ∀ w ∈ vx_atS own ic cls names, w.before args s = true)
    (hgood : ∀ w ∈ Cond.classLink own ik cls :: Cond.initialized cls :: vx_atS own ic cls names, vx_ot w = true)
    (hU : vx_Zq Bundle.tN "UNASSIGNED_STACK" Bundle.steD A s s.heap) (hN : vx_Zq Bundle.tN "SUPPRESSED_SENTINEL" Bundle.listD A s s.heap) (hS : va_S A s.heap H locs) (hsize : ls.size = c.maxLocals)
    (d0 : decode cc pc = .ok (.new ik, 3)) (d3 : decode cc (pc + 3) = .ok (.dup, 1)) (d4 : decode cc (pc + 4) = .ok (.ldc is, 2)) (d6 : decode cc (pc + 6) = .ok (.invokespecial ic, 3))
    (hK : va_K D cl tys s) (hP : va_P D cl ws H) (hD : va_D A ws) (hA : ∀ q, s.heap.size ≤ q → A q) (hc : cl[ci]? = some (cls, T0, 0))
    (hRframes : names.length + 3 < R.frames) (hRlocals : (rest.map fun v => v.category).sum + (13 * (names.length + 1) + 43) ≤ R.locals) (hRcells : cells + 1 ≤ R.cells) (hRslots : slots + 6 ≤ R.slots)
    (kk : ∀ (q : Nat) (H1 : Heap), va_P D cl (ws ++ [(q, .inr (ci, []))]) H1 → va_D A (ws ++ [(q, .inr (ci, []))]) → va_S A s.heap H1 locs → W p l e R s m args below meth c H1 locs (cells + 1) (slots + 6) Q (F0 m (pc + 9) ls (.ref q :: rest))) :
    W p l e R s m args below meth c H locs cells slots Q (F0 m pc ls rest) := by
  intro T hT X
  subst hT
  have htr : e.platform.stackTraces = false := (show e.platform.stackTraces = l.stackTraces by rw [X.admits.platform]).trans hl
  have Y := vx_rebase X (R' := { frames := R.frames, locals := R.locals, cells := 1, slots := 6 }) (Nat.le_refl _) (Nat.le_refl _) hRcells hRslots
  obtain ⟨s', hA'⟩ : ∃ z, z = (T.setVm s.vm).setFrames (.invoking m args :: below) := ⟨_, rfl⟩
  rw [← hA'] at Y
  have hvm : s'.vm = s.vm := by rw [hA']; rfl
  have hhp : s'.heap = T.heap := by rw [hA']; rfl
  have hW0 : s.WarmedH s'.vm := by rw [hvm]; exact State.WarmedH.refl s
  have hat' : ∀ w ∈ vx_atS own ic cls names, w.before args s' = true := fun w hw => vx_ot_at hW0 hvm.symm (hgood w (List.mem_cons_of_mem _ (List.mem_cons_of_mem _ hw))) (hat w hw)
  have hk' : (Cond.classLink own ik cls).before args s' = true := vx_ot_at hW0 hvm.symm (hgood _ List.mem_cons_self) hk
  have hini' : (Cond.initialized cls).before args s' = true := vx_ot_at hW0 hvm.symm (hgood _ (List.mem_cons_of_mem _ List.mem_cons_self)) hini
  have hU' : vx_Zq Bundle.tN "UNASSIGNED_STACK" Bundle.steD A s' s'.heap := by rw [hhp]; exact vx_Zq.moved hW0.alike (hU.kept hS.2.1)
  have hN' : vx_Zq Bundle.tN "SUPPRESSED_SENTINEL" Bundle.listD A s' s'.heap := by rw [hhp]; exact vx_Zq.moved hW0.alike (hN.kept hS.2.1)
  have h : ∀ w ∈ Bundle.ownAtoms own ic cls names, w.before args s' = true := vx_own hat' (vx_isRefq hU'.1) (vx_isRefq hN'.1) hU'.2.word hN'.2.word
  have hown' : s'.vm.findClass own = some m.cls := by rw [hvm]; exact hown
  have hins : (Cond.instantiable cls 6).before args s' = true := h _ (by simp [Bundle.ownAtoms])
  obtain ⟨vm₁, cX, kX, hfX, hkX, -, -, X₁, st1⟩ := Y.newCold hexec (own := own) (C := cls) (index := ik) (n := 6) hown' hk' hins hini'
    (g := F0 m pc ls rest) rfl (by rw [hb]; exact d0) (Nat.le_refl _) (Nat.le_refl _)
  generalize hT1 : (T.setVm vm₁).pushCell { cls := cX, slots := kX.instanceTypes.map defaultValue, vm := .none } = T1 at X₁ st1
  have hcat : (Value.ref T.heap.size).category = 1 := rfl
  have hcellA : T1.heap[T.heap.size]? = some (freshCell cX kX) := by rw [← hT1]; exact State.heap_pushCell_size _ _
  have d3' : decode c.code (pc + 3) = .ok (.dup, 1) := by rw [hb]; exact d3
  have d4' : decode c.code (pc + 4) = .ok (.ldc is, 2) := by rw [hb]; exact d4
  have hstr' : vk_R own is text sa s' := vk_R.warm hW0 hstr
  obtain ⟨V, ce, L, Z, hL, hlt, hcl9, hvm9, st⟩ := vx_ctorMadeS X₁ hexec htr (own := own) (cls := cls) (names := names) (ic := ic) hown' hcls hnames h (fun x hx => nomatch hx) hfX hkX hcellA (by rw [hhp]; exact Nat.le_refl _) (msg := .ref sa) rfl
    (g := { method := m, pc := pc + 6, locals := ls, stack := .ref sa :: .ref T.heap.size :: .ref T.heap.size :: rest, locked := none }) rfl hsize (rest := rest) rfl
    (by rw [hb]; exact d6) hRframes (by simp only [List.map_cons, List.sum_cons, hcat]; omega)
  have Z0 := Stand.forget (locs := []) Z (fun y hy => by rw [hL y hy, hhp]; exact Nat.le_refl _)
  obtain ⟨f1, f2⟩ := vx_frame Z0.same
  rw [hhp] at f1 f2
  have hcid : ce.cls = D.1 ci := by
    rw [hcl9]
    have h1 := (hK.1 ci _ hc).2.1
    rw [hvm] at hfX
    exact Option.some.inj (hfX.symm.trans h1)
  have hh : (V.setCell T.heap.size ce).heap[T.heap.size]? = some ce := heapAt_setCell_self (s := V) ce hlt
  subst hA'
  have X5 := vx_back9 X Y Z0
  have X6 : Stand p l e R s m args below meth c (V.setCell T.heap.size ce) locs (cells + 1) (slots + 6) := { X5 with same := X5.same.mono (by omega) (by omega) }
  have hk9 : ∀ (k : Nat) (x : Nat × va_E), ws[k]? = some x → (V.setCell T.heap.size ce).heap[x.1]? = T.heap[x.1]? := fun k x hx => f2 x.1 ((hP k x hx).lt) (fun z hz => nomatch hz)
  obtain ⟨t, a1, b1⟩ := kk T.heap.size (V.setCell T.heap.size ce).heap ((hP.kept hk9).app (fun k x hx => by
      have hz : k < 1 := (List.getElem?_eq_some_iff.mp hx).1
      rw [show k = 0 by omega] at hx
      cases hx
      exact ⟨_, hc, ce, hh, hcid, hvm9, fun k hk => absurd hk (Nat.not_lt_zero k)⟩)) (hD.push hP rfl (hA _ hS.1)) ⟨Nat.le_trans hS.1 f1, fun q h1 h2 => (f2 q (Nat.lt_of_lt_of_le h1 hS.1) (fun z hz => nomatch hz)).trans (hS.2.1 q h1 h2), hS.2.2⟩ _ rfl X6
  refine ⟨t, st1 _ ?_, b1⟩
  show Steps p.tables e below (T1.setTop { method := m, pc := pc + 3, locals := ls, stack := .ref T.heap.size :: rest, locked := none }) _
  jvm_step X₁.here [X₁.here.top, hexec, d3', Value.category]
  exact X₁.ldcString hexec (own := own) (text := text) (index := is) (a := sa) hown' hstr'.1 hstr'.2
    (g := { method := m, pc := pc + 4, locals := ls, stack := .ref T.heap.size :: .ref T.heap.size :: rest, locked := none }) rfl d4' _ (st _ a1)
/-- 'new E()' that isn't thrown at once: the object goes on the stack -/
theorem vx_make0 {cc : ByteArray} {pc : Nat} (hexec : p.tables.exec = Jvm.exec) (hb : c.code = cc) (hl : l.stackTraces = false) {own cls : String} {names : List String} {ik ic ci : Nat} {A : Nat → Prop} {T0 : u_T}
    (hown : s.vm.findClass own = some m.cls) (hcls : Bundle.fit cls = true) (hnames : ∀ n ∈ names, Bundle.fit n = true)
    (hk : (Cond.classLink own ik cls).before args s = true) (hini : (Cond.initialized cls).before args s = true) (hat : ∀ w ∈ vx_at0 own ic cls names, w.before args s = true)
    (hgood : ∀ w ∈ Cond.classLink own ik cls :: Cond.initialized cls :: vx_at0 own ic cls names, vx_ot w = true)
    (hU : vx_Zq Bundle.tN "UNASSIGNED_STACK" Bundle.steD A s s.heap) (hN : vx_Zq Bundle.tN "SUPPRESSED_SENTINEL" Bundle.listD A s s.heap) (hS : va_S A s.heap H locs) (hsize : ls.size = c.maxLocals)
    (d0 : decode cc pc = .ok (.new ik, 3)) (d3 : decode cc (pc + 3) = .ok (.dup, 1)) (d4 : decode cc (pc + 4) = .ok (.invokespecial ic, 3))
    (hK : va_K D cl tys s) (hP : va_P D cl ws H) (hD : va_D A ws) (hA : ∀ q, s.heap.size ≤ q → A q) (hc : cl[ci]? = some (cls, T0, 0))
    (hRframes : names.length + 3 < R.frames) (hRlocals : (rest.map fun v => v.category).sum + (13 * (names.length + 1) + 42) ≤ R.locals) (hRcells : cells + 1 ≤ R.cells) (hRslots : slots + 6 ≤ R.slots)
    (kk : ∀ (q : Nat) (H1 : Heap), va_P D cl (ws ++ [(q, .inr (ci, []))]) H1 → va_D A (ws ++ [(q, .inr (ci, []))]) → va_S A s.heap H1 locs → W p l e R s m args below meth c H1 locs (cells + 1) (slots + 6) Q (F0 m (pc + 7) ls (.ref q :: rest))) :
    W p l e R s m args below meth c H locs cells slots Q (F0 m pc ls rest) := by
  intro T hT X
  subst hT
  have htr : e.platform.stackTraces = false := (show e.platform.stackTraces = l.stackTraces by rw [X.admits.platform]).trans hl
  have Y := vx_rebase X (R' := { frames := R.frames, locals := R.locals, cells := 1, slots := 6 }) (Nat.le_refl _) (Nat.le_refl _) hRcells hRslots
  obtain ⟨s', hA'⟩ : ∃ z, z = (T.setVm s.vm).setFrames (.invoking m args :: below) := ⟨_, rfl⟩
  rw [← hA'] at Y
  have hvm : s'.vm = s.vm := by rw [hA']; rfl
  have hhp : s'.heap = T.heap := by rw [hA']; rfl
  have hW0 : s.WarmedH s'.vm := by rw [hvm]; exact State.WarmedH.refl s
  have hat' : ∀ w ∈ vx_at0 own ic cls names, w.before args s' = true := fun w hw => vx_ot_at hW0 hvm.symm (hgood w (List.mem_cons_of_mem _ (List.mem_cons_of_mem _ hw))) (hat w hw)
  have hk' : (Cond.classLink own ik cls).before args s' = true := vx_ot_at hW0 hvm.symm (hgood _ List.mem_cons_self) hk
  have hini' : (Cond.initialized cls).before args s' = true := vx_ot_at hW0 hvm.symm (hgood _ (List.mem_cons_of_mem _ List.mem_cons_self)) hini
  have hU' : vx_Zq Bundle.tN "UNASSIGNED_STACK" Bundle.steD A s' s'.heap := by rw [hhp]; exact vx_Zq.moved hW0.alike (hU.kept hS.2.1)
  have hN' : vx_Zq Bundle.tN "SUPPRESSED_SENTINEL" Bundle.listD A s' s'.heap := by rw [hhp]; exact vx_Zq.moved hW0.alike (hN.kept hS.2.1)
  have h : ∀ w ∈ Bundle.ownAtoms0 own ic cls names, w.before args s' = true := vx_own hat' (vx_isRefq hU'.1) (vx_isRefq hN'.1) hU'.2.word hN'.2.word
  have hown' : s'.vm.findClass own = some m.cls := by rw [hvm]; exact hown
  have hins : (Cond.instantiable cls 6).before args s' = true := h _ (by simp [Bundle.ownAtoms0])
  obtain ⟨vm₁, cX, kX, hfX, hkX, -, -, X₁, st1⟩ := Y.newCold hexec (own := own) (C := cls) (index := ik) (n := 6) hown' hk' hins hini'
    (g := F0 m pc ls rest) rfl (by rw [hb]; exact d0) (Nat.le_refl _) (Nat.le_refl _)
  generalize hT1 : (T.setVm vm₁).pushCell { cls := cX, slots := kX.instanceTypes.map defaultValue, vm := .none } = T1 at X₁ st1
  have hcat : (Value.ref T.heap.size).category = 1 := rfl
  have hcellA : T1.heap[T.heap.size]? = some (freshCell cX kX) := by rw [← hT1]; exact State.heap_pushCell_size _ _
  have d3' : decode c.code (pc + 3) = .ok (.dup, 1) := by rw [hb]; exact d3
  obtain ⟨V, ce, L, Z, hL, hlt, hcl9, hvm9, st⟩ := vx_ctorMade0 X₁ hexec htr (own := own) (cls := cls) (names := names) (ic := ic) hown' hcls hnames h (fun x hx => nomatch hx) hfX hkX hcellA (by rw [hhp]; exact Nat.le_refl _)
    (g := { method := m, pc := pc + 4, locals := ls, stack := .ref T.heap.size :: .ref T.heap.size :: rest, locked := none }) rfl hsize (rest := rest) rfl
    (by rw [hb]; exact d4) hRframes (by simp only [List.map_cons, List.sum_cons, hcat]; omega)
  have Z0 := Stand.forget (locs := []) Z (fun y hy => by rw [hL y hy, hhp]; exact Nat.le_refl _)
  obtain ⟨f1, f2⟩ := vx_frame Z0.same
  rw [hhp] at f1 f2
  have hcid : ce.cls = D.1 ci := by
    rw [hcl9]
    have h1 := (hK.1 ci _ hc).2.1
    rw [hvm] at hfX
    exact Option.some.inj (hfX.symm.trans h1)
  have hh : (V.setCell T.heap.size ce).heap[T.heap.size]? = some ce := heapAt_setCell_self (s := V) ce hlt
  subst hA'
  have X5 := vx_back9 X Y Z0
  have X6 : Stand p l e R s m args below meth c (V.setCell T.heap.size ce) locs (cells + 1) (slots + 6) := { X5 with same := X5.same.mono (by omega) (by omega) }
  have hk9 : ∀ (k : Nat) (x : Nat × va_E), ws[k]? = some x → (V.setCell T.heap.size ce).heap[x.1]? = T.heap[x.1]? := fun k x hx => f2 x.1 ((hP k x hx).lt) (fun z hz => nomatch hz)
  obtain ⟨t, a1, b1⟩ := kk T.heap.size (V.setCell T.heap.size ce).heap ((hP.kept hk9).app (fun k x hx => by
      have hz : k < 1 := (List.getElem?_eq_some_iff.mp hx).1
      rw [show k = 0 by omega] at hx
      cases hx
      exact ⟨_, hc, ce, hh, hcid, hvm9, fun k hk => absurd hk (Nat.not_lt_zero k)⟩)) (hD.push hP rfl (hA _ hS.1)) ⟨Nat.le_trans hS.1 f1, fun q h1 h2 => (f2 q (Nat.lt_of_lt_of_le h1 hS.1) (fun z hz => nomatch hz)).trans (hS.2.1 q h1 h2), hS.2.2⟩ _ rfl X6
  refine ⟨t, st1 _ ?_, b1⟩
  show Steps p.tables e below (T1.setTop { method := m, pc := pc + 3, locals := ls, stack := .ref T.heap.size :: rest, locked := none }) _
  jvm_step X₁.here [X₁.here.top, hexec, d3', Value.category]
  exact st _ a1
/-- 'throw x' of an object that was made before -/
theorem vx_athrow {cc : ByteArray} {pc : Nat} (hexec : p.tables.exec = Jvm.exec) (hb : c.code = cc) {q : Addr} (hdg : decode cc pc = .ok (.athrow, 1)) (k : vx_W p l e R s m args below meth c H locs cells slots Q (F0 m pc ls rest) q) : W p l e R s m args below meth c H locs cells slots Q (F0 m pc ls (.ref q :: rest)) := by
  intro T hT X
  obtain ⟨t, st, hq⟩ := k T hT X
  refine ⟨t, ?_, hq⟩
  have hdg' : decode c.code pc = .ok (.athrow, 1) := by rw [hb]; exact hdg
  jvm_step X.here [X.here.top, hexec, hdg', athrow.wp_sem]
  exact st
end VXK2
/-! ===== END ===== -/
/-! ===== BEGIN a constructor that throws (launches without stack traces) ===== -/
section VXIA
variable {p : Program} {l : Launch} {e : Env} {R : Room} {s : State} {m : MethodId} {args : Array Value} {below : List Frame} {meth : Method} {c : Code} {T : State} {locs : List Loc} {cells slots : Nat}
theorem vx_callI (X : Stand p l e R s m args below meth c T locs cells slots) (hexec : p.tables.exec = Jvm.exec) {own : String} {index : Nat} {y : MethodName} {bytes : ByteArray} {maxL : Nat}
    (hown : s.vm.findClass own = some m.cls) (hy1 : y.name = "<init>") (hlink : (Cond.methodLink own index y).before args s = true) (hinst : (Cond.instanceMethod y).before args s = true)
    (hcode : (Cond.code y bytes maxL none).before args s = true) (hy : y.cls ≠ "java/lang/invoke/MethodHandle" ∧ y.cls ≠ "java/lang/invoke/VarHandle")
    {W9 : Nat} {Pre : Pt → Array Value → Prop} {Post : Pt → Array Value → Option Value → Pt → Prop} {PostX : Pt → Array Value → Addr → Pt → Prop} (hK : vx_Back l R p e below s args y 3 W9 Pre Post PostX)
    {g : JFrame} (hg : g.method = m) (hsize : g.locals.size = c.maxLocals) {a : Addr} {argsL rest : List Value} (hlen : ∀ sig, parseMethodDescriptor y.desc = some sig → argsL.length = sig.parameters.length)
    (hstack : g.stack = argsL.reverse ++ .ref a :: rest) (hW : 2 * g.monitorRoom + (rest.map fun v => v.category).sum ≤ W9) (hdg : decode c.code g.pc = .ok (.invokespecial index, 3))
    (hpre : ∀ vm₁, s.WarmedH vm₁ → Pre ⟨T.setVm vm₁, locs, cells, slots⟩ (Value.ref a :: argsL).toArray) :
    (∃ (v : Option Value) (vm₁ : Vm) (B : Pt), s.WarmedH vm₁ ∧ Stand p l e R s m args below meth c B.U B.locs B.cells B.slots ∧ Post ⟨T.setVm vm₁, locs, cells, slots⟩ (Value.ref a :: argsL).toArray v B ∧
      ∀ target, Steps p.tables e below (B.U.setTop { g with pc := g.pc + 3, stack := v.toList ++ rest }) target → Steps p.tables e below (T.setTop g) target) ∨
    (∃ (q : Addr) (vm₁ : Vm) (B : Pt), s.WarmedH vm₁ ∧ Stand p l e R s m args below meth c B.U B.locs B.cells B.slots ∧ PostX ⟨T.setVm vm₁, locs, cells, slots⟩ (Value.ref a :: argsL).toArray q B ∧
      Steps p.tables e below (T.setTop g) ((B.U.setTop { g with stack := rest }).pushFrame (.throwing q))) := by
  subst hg
  have hpl : e.platform.magicAccessors = ({} : Platform).magicAccessors := by rw [X.admits.platform]
  obtain ⟨mk, methM, cM, kP, vm₁, hnamed, hmethM, hcodeM, -, hlocalsM, -, hkP, -, hW₁, hstep₁⟩ := Steps.initColdArgs (e := e) X.here hexec X.warmed hpl hown hy1 hy hlink hinst hcode (f := g) rfl hlen hstack hdg
  have X₁ := X.noted hW₁
  rcases hK g.method meth c ⟨T.setVm vm₁, locs, cells, slots⟩ { g with stack := rest } (.invokespecial index) mk (Value.ref a :: argsL).toArray X₁ rfl hsize hdg hW (X₁.named hnamed) (hpre vm₁ X₁.warmed) with ⟨v, B, X', hpost, hsteps⟩ | ⟨q, B, X', hpost, hsteps⟩
  · exact Or.inl ⟨v, vm₁, B, X₁.warmed, X', hpost, fun target h => hstep₁ _ fun acts => by rw [doInvoke_state]; exact hsteps.trans h⟩
  · exact Or.inr ⟨q, vm₁, B, X₁.warmed, X', hpost, hstep₁ _ fun acts => by rw [doInvoke_state]; exact hsteps⟩
end VXIA
section VXIB
variable {p : Program} {l : Launch} {e : Env} {R : Room} {s : State} {m : MethodId} {args : Array Value} {below : List Frame} {meth : Method} {c : Code} {H : Heap} {locs : List Loc} {cells slots : Nat}
variable {y : MethodName} {bytes cc : ByteArray} {maxL nL mc ms n index : Nat} {ret : Option FieldType} {ws : List Cond} {rm : Room} {Pc : Array Value → State → Prop} {Qc : Array Value → State → Outcome → State → Prop} {XC : String → State → State → Prop} {free : Addr → Prop} {Ts : List Cond} {own C : String} {b : Addr} {As rest : List Value} {g : JFrame}
theorem vx_runI (S : CallFix p m c cc nL s args Ts own) (hM : vx_Met l y ws rm Pc Qc XC mc ms free) (cw : CallB R s args own index y bytes maxL none ws rm mc ms n ∧ y.name = "<init>" ∧ (Cond.instanceMethod y).before args s = true) (hp : PreS s H Pc (.ref b :: As))
    (hg : g.method = m) (hn : As.length = n) (hsize : g.locals.size = nL) (hstack : g.stack = As.reverse ++ .ref b :: rest) (hW : 2 * g.monitorRoom + (rest.map fun v => v.category).sum ≤ 8) (hdg : decode cc g.pc = .ok (.invokespecial index, 3)) (hf : cells + mc ≤ R.cells ∧ slots + ms ≤ R.slots) :
    vx_Run p l e R s m args below meth c H locs cells slots mc ms g rest (Qc (Value.ref b :: As).toArray) XC free := by
  have hK : vx_Back l R p e below s args y 3 8 (PreOf R mc ms Pc) (PostOf Qc mc ms free) (vx_Post XC mc ms free) := vx_callBack cw.1 hM hp.1
  obtain ⟨⟨-, -, -, -, -, -, hcode, -, hy, hlen, hl⟩, hy1, hin⟩ := cw
  obtain ⟨hx, hb, hml, ho, -⟩ := S
  have hPc := hp.2
  intro T hT X
  rcases vx_callI X hx (bytes := bytes) (maxL := maxL) ho hy1 hl hin hcode hy hK hg (hsize.trans hml.symm) (a := b) (argsL := As) (rest := rest) (fun sig h => hn.trans (hlen sig h)) hstack hW (by rw [hb]; exact hdg)
    (fun vm₁ hW₁ => ⟨hf.1, hf.2, hPc (T.setVm vm₁) hT hW₁⟩) with ⟨v, vm₁, ⟨U', l2, c2, s2⟩, hW₁, X', ⟨g', mk, t, L, e1, e2, hq, h1, hL, h2, h3⟩, st⟩ | ⟨q, vm₁, ⟨U', l2, c2, s2⟩, hW₁, X', ⟨g', mk, t, L, E, ce, e1, e2, hq, hce, hcv, hcl, h1, hL, h2, h3⟩, st⟩
  · dsimp only [Pt.U, Pt.locs, Pt.cells, Pt.slots] at X' e1 e2 h1 h2 h3 st
    subst h1; subst h2; subst h3
    exact Or.inl ⟨v, (T.setVm vm₁).calling g' mk (Value.ref b :: As).toArray, t, U', L, hT, X', hL, e1, e2, hq, st⟩
  · dsimp only [Pt.U, Pt.locs, Pt.cells, Pt.slots] at X' e1 e2 h1 h2 h3 st hcl
    subst h1; subst h2; subst h3
    exact Or.inr ⟨q, (T.setVm vm₁).calling g' mk (Value.ref b :: As).toArray, t, U', L, E, ce, hT, X', hL, e1, e2, hq, hce, hcv, vx_cls hW₁ hcl, st⟩
end VXIB
/-! ===== END ===== -/
/-! ===== BEGIN a private constructor of a nest mate that throws ===== -/
section VXIC
variable {p : Program} {l : Launch} {e : Env} {R : Room} {s : State} {m : MethodId} {args : Array Value} {below : List Frame} {meth : Method} {c : Code} {T : State} {locs : List Loc} {cells slots : Nat}
theorem vx_callIN (X : Stand p l e R s m args below meth c T locs cells slots) (hexec : p.tables.exec = Jvm.exec) {own : String} {index : Nat} {host : String} {y : MethodName} {bytes : ByteArray} {maxL : Nat}
    (hown : s.vm.findClass own = some m.cls) (hy1 : y.name = "<init>") (hlink : (Cond.methodLinkNest own index y host).before args s = true) (hinst : (Cond.instanceMethod y).before args s = true)
    (hcode : (Cond.code y bytes maxL none).before args s = true) (hy : y.cls ≠ "java/lang/invoke/MethodHandle" ∧ y.cls ≠ "java/lang/invoke/VarHandle")
    {W9 : Nat} {Pre : Pt → Array Value → Prop} {Post : Pt → Array Value → Option Value → Pt → Prop} {PostX : Pt → Array Value → Addr → Pt → Prop} (hK : vx_Back l R p e below s args y 3 W9 Pre Post PostX)
    {g : JFrame} (hg : g.method = m) (hsize : g.locals.size = c.maxLocals) {a : Addr} {argsL rest : List Value} (hlen : ∀ sig, parseMethodDescriptor y.desc = some sig → argsL.length = sig.parameters.length)
    (hstack : g.stack = argsL.reverse ++ .ref a :: rest) (hW : 2 * g.monitorRoom + (rest.map fun v => v.category).sum ≤ W9) (hdg : decode c.code g.pc = .ok (.invokespecial index, 3))
    (hpre : ∀ vm₁, s.WarmedH vm₁ → Pre ⟨T.setVm vm₁, locs, cells, slots⟩ (Value.ref a :: argsL).toArray) :
    (∃ (v : Option Value) (vm₁ : Vm) (B : Pt), s.WarmedH vm₁ ∧ Stand p l e R s m args below meth c B.U B.locs B.cells B.slots ∧ Post ⟨T.setVm vm₁, locs, cells, slots⟩ (Value.ref a :: argsL).toArray v B ∧
      ∀ target, Steps p.tables e below (B.U.setTop { g with pc := g.pc + 3, stack := v.toList ++ rest }) target → Steps p.tables e below (T.setTop g) target) ∨
    (∃ (q : Addr) (vm₁ : Vm) (B : Pt), s.WarmedH vm₁ ∧ Stand p l e R s m args below meth c B.U B.locs B.cells B.slots ∧ PostX ⟨T.setVm vm₁, locs, cells, slots⟩ (Value.ref a :: argsL).toArray q B ∧
      Steps p.tables e below (T.setTop g) ((B.U.setTop { g with stack := rest }).pushFrame (.throwing q))) := by
  subst hg
  have hpl : e.platform.magicAccessors = ({} : Platform).magicAccessors := by rw [X.admits.platform]
  obtain ⟨mk, methM, cM, kP, vm₁, hnamed, hmethM, hcodeM, -, hlocalsM, -, hkP, -, hW₁, hstep₁⟩ := Steps.initColdArgsNest (e := e) X.here hexec X.warmed hpl hown hy1 hy hlink hinst hcode (f := g) rfl hlen hstack hdg
  have X₁ := X.noted hW₁
  rcases hK g.method meth c ⟨T.setVm vm₁, locs, cells, slots⟩ { g with stack := rest } (.invokespecial index) mk (Value.ref a :: argsL).toArray X₁ rfl hsize hdg hW (X₁.named hnamed) (hpre vm₁ X₁.warmed) with ⟨v, B, X', hpost, hsteps⟩ | ⟨q, B, X', hpost, hsteps⟩
  · exact Or.inl ⟨v, vm₁, B, X₁.warmed, X', hpost, fun target h => hstep₁ _ fun acts => by rw [doInvoke_state]; exact hsteps.trans h⟩
  · exact Or.inr ⟨q, vm₁, B, X₁.warmed, X', hpost, hstep₁ _ fun acts => by rw [doInvoke_state]; exact hsteps⟩
end VXIC
section VXID
variable {p : Program} {l : Launch} {e : Env} {R : Room} {s : State} {m : MethodId} {args : Array Value} {below : List Frame} {meth : Method} {c : Code} {H : Heap} {locs : List Loc} {cells slots : Nat}
theorem vx_runIN {y : MethodName} {bytes cc : ByteArray} {maxL nL mc ms n index : Nat} {ws : List Cond} {rm : Room} {Pc : Array Value → State → Prop} {Qc : Array Value → State → Outcome → State → Prop} {XC : String → State → State → Prop} {free : Addr → Prop} {Ts : List Cond} {own host : String} {b : Addr} {As rest : List Value} {g : JFrame}
    (S : CallFix p m c cc nL s args Ts own) (hM : vx_Met l y ws rm Pc Qc XC mc ms free) (cw : va_CN R s args own index y host bytes maxL none ws rm mc ms n ∧ y.name = "<init>" ∧ (Cond.instanceMethod y).before args s = true) (hp : PreS s H Pc (.ref b :: As))
    (hg : g.method = m) (hn : As.length = n) (hsize : g.locals.size = nL) (hstack : g.stack = As.reverse ++ .ref b :: rest) (hW : 2 * g.monitorRoom + (rest.map fun v => v.category).sum ≤ 8) (hdg : decode cc g.pc = .ok (.invokespecial index, 3)) (hf : cells + mc ≤ R.cells ∧ slots + ms ≤ R.slots) :
    vx_Run p l e R s m args below meth c H locs cells slots mc ms g rest (Qc (Value.ref b :: As).toArray) XC free := by
  obtain ⟨⟨⟨hrc, hrs, hfr, hlo, hws, hcw⟩, hcode, hini, hy, hlen, hl⟩, hx1, hx2⟩ := cw
  have hK : vx_Back l R p e below s args y 3 8 (PreOf R mc ms Pc) (PostOf Qc mc ms free) (vx_Post XC mc ms free) := vx_back (bytes := bytes) (maxL := maxL) (ret := none) hM hp.1 hrc hrs hfr hlo hws hcw (fun a' U hW => word_at hW (Or.inl (by first | rfl | simp [Cond.onTables, Cond.keeps, Cond.steady])) hini)
  obtain ⟨hx, hb, hml, ho, -⟩ := S
  have hPc := hp.2
  intro T hT X
  rcases vx_callIN X hx (bytes := bytes) (maxL := maxL) ho hx1 hl hx2 hcode hy hK hg (hsize.trans hml.symm) (a := b) (argsL := As) (rest := rest) (fun sig h => hn.trans (hlen sig h)) hstack hW (by rw [hb]; exact hdg)
    (fun vm₁ hW₁ => ⟨hf.1, hf.2, hPc (T.setVm vm₁) hT hW₁⟩) with ⟨v, vm₁, ⟨U', l2, c2, s2⟩, hW₁, X', ⟨g', mk, t, L, e1, e2, hq, h1, hL, h2, h3⟩, st⟩ | ⟨q, vm₁, ⟨U', l2, c2, s2⟩, hW₁, X', ⟨g', mk, t, L, E, ce, e1, e2, hq, hce, hcv, hcl, h1, hL, h2, h3⟩, st⟩
  · dsimp only [Pt.U, Pt.locs, Pt.cells, Pt.slots] at X' e1 e2 h1 h2 h3 st
    subst h1; subst h2; subst h3
    exact Or.inl ⟨v, (T.setVm vm₁).calling g' mk (Value.ref b :: As).toArray, t, U', L, hT, X', hL, e1, e2, hq, st⟩
  · dsimp only [Pt.U, Pt.locs, Pt.cells, Pt.slots] at X' e1 e2 h1 h2 h3 st hcl
    subst h1; subst h2; subst h3
    exact Or.inr ⟨q, (T.setVm vm₁).calling g' mk (Value.ref b :: As).toArray, t, U', L, E, ce, hT, X', hL, e1, e2, hq, hce, hcv, vx_cls hW₁ hcl, st⟩
end VXID
/-! ===== END ===== -/
/-! ===== BEGIN a method of a class above, found by the receiver, that may throw (follows va_callVU, va_runU of this kit) ===== -/
section
variable {p : Program} {l : Launch} {e : Env} {R : Room} {s : State} {m : MethodId} {args : Array Value} {below : List Frame} {meth : Method} {c : Code} {H : Heap} {locs : List Loc} {cells slots : Nat}
theorem vx_callVU {T : State} {locs : List Loc} {cells slots : Nat} (X : Stand p l e R s m args below meth c T locs cells slots) (hexec : p.tables.exec = Jvm.exec) {own C owner : String} {index : Nat} {x y : MethodName} {bytes : ByteArray} {maxL : Nat} {ret : Option FieldType}
    (hown : s.vm.findClass own = some m.cls) (hlink : (Cond.methodLink own index x).before args s = true) (hsame : (Cond.sameMethod x.cls owner x.name x.desc).before args s = true)
    (hd0 : va_Decl s ⟨owner, x.name, x.desc⟩) (howner : owner ≠ "java/lang/invoke/MethodHandle" ∧ owner ≠ "java/lang/invoke/VarHandle")
    (hsel : (Cond.selects C x y).before args s = true) (hinst : (Cond.instanceMethod y).before args s = true) (hcode : (Cond.code y bytes maxL ret).before args s = true)
    {W : Nat} {Pre : Pt → Array Value → Prop} {Post : Pt → Array Value → Option Value → Pt → Prop} {PostX : Pt → Array Value → Addr → Pt → Prop} (hK : vx_Back l R p e below s args y 3 W Pre Post PostX)
    {b : Addr} {cellB : Cell} (hcell : T.heap[b]? = some cellB) (hobj : cellB.vm.isStatics = false) (hcls : s.vm.findClass C = some cellB.cls)
    {g : JFrame} (hg : g.method = m) (hsize : g.locals.size = c.maxLocals) {argsL rest : List Value} (hlen : ∀ sig, parseMethodDescriptor x.desc = some sig → argsL.length = sig.parameters.length)
    (hstack : g.stack = argsL.reverse ++ .ref b :: rest) (hW : 2 * g.monitorRoom + (rest.map fun v => v.category).sum ≤ W) (hdg : decode c.code g.pc = .ok (.invokevirtual index, 3))
    (hpre : ∀ vm₁, s.WarmedH vm₁ → Pre ⟨T.setVm vm₁, locs, cells, slots⟩ (Value.ref b :: argsL).toArray) :
    (∃ (v : Option Value) (vm₁ : Vm) (B : Pt), s.WarmedH vm₁ ∧ Stand p l e R s m args below meth c B.U B.locs B.cells B.slots ∧ Post ⟨T.setVm vm₁, locs, cells, slots⟩ (Value.ref b :: argsL).toArray v B ∧
      ∀ target, Steps p.tables e below (B.U.setTop { g with pc := g.pc + 3, stack := v.toList ++ rest }) target → Steps p.tables e below (T.setTop g) target) ∨
    (∃ (q : Addr) (vm₁ : Vm) (B : Pt), s.WarmedH vm₁ ∧ Stand p l e R s m args below meth c B.U B.locs B.cells B.slots ∧ PostX ⟨T.setVm vm₁, locs, cells, slots⟩ (Value.ref b :: argsL).toArray q B ∧
      Steps p.tables e below (T.setTop g) ((B.U.setTop { g with stack := rest }).pushFrame (.throwing q))) := by
  obtain ⟨r0, r, hn, hrm, hstR, hsigR⟩ := hd0
  obtain ⟨cn, ck, r1, hcn, hck, hni, hf, hn1⟩ := Cond.sameMethod_found hsame
  cases hn.symm.trans hn1
  obtain ⟨mk, methM, hnamed, hmethM, -, habM⟩ := Cond.instanceMethod_spec hinst
  obtain ⟨c2, r2, m2, q1, q2, q3, q4, kP, hkP, hkPi⟩ := Cond.selects_spec hsel
  cases hcls.symm.trans q1
  cases hf.symm.trans q2
  cases hnamed.symm.trans q3
  have hselP : selectMethod e.platform s.vm cellB.cls r0 = .method mk := by rw [Launch.admits_selectMethod X.admits]; exact q4
  obtain ⟨vm₁, X₁, hstep₁⟩ := X.invokevirtualUp hexec hown hlink hsame howner hn hrm hstR (a := b) (cell := cellB) hcell
    (fun z h => by rw [h] at hobj; cases hobj) hselP hmethM habM hkP hkPi (g := g) hg (argsL := argsL) (rest := rest) (hlen _ hsigR) hstack hdg
  rcases hK m meth c ⟨T.setVm vm₁, locs, cells, slots⟩ { g with stack := rest } (.invokevirtual index) mk (Value.ref b :: argsL).toArray X₁ hg hsize hdg hW (X₁.named hnamed) (hpre vm₁ X₁.warmed) with ⟨v, B, X', hpost, hsteps⟩ | ⟨q, B, X', hpost, hsteps⟩
  · exact Or.inl ⟨v, vm₁, B, X₁.warmed, X', hpost, fun target h => hstep₁ _ fun acts => by rw [doInvoke_state]; exact hsteps.trans h⟩
  · exact Or.inr ⟨q, vm₁, B, X₁.warmed, X', hpost, hstep₁ _ fun acts => by rw [doInvoke_state]; exact hsteps⟩
theorem vx_runU {x y : MethodName} {bytes cc : ByteArray} {maxL nL mc ms n index : Nat} {ret : Option FieldType} {ws : List Cond} {rm : Room} {Pc : Array Value → State → Prop} {Qc : Array Value → State → Outcome → State → Prop} {XC : String → State → State → Prop} {free : Addr → Prop} {Ts : List Cond} {own C owner : String} {b : Addr} {As rest : List Value} {g : JFrame}
    (S : CallFix p m c cc nL s args Ts own) (hM : vx_Met l y ws rm Pc Qc XC mc ms free) (cw : va_CU R s args own C owner index x y bytes maxL ret ws rm mc ms n) (hp : PreV s H C b Pc As)
    (hg : g.method = m) (hn : As.length = n) (hsize : g.locals.size = nL) (hstack : g.stack = As.reverse ++ .ref b :: rest) (hW : 2 * g.monitorRoom + (rest.map fun v => v.category).sum ≤ 8) (hdg : decode cc g.pc = .ok (.invokevirtual index, 3)) (hf : cells + mc ≤ R.cells ∧ slots + ms ≤ R.slots) :
    vx_Run p l e R s m args below meth c H locs cells slots mc ms g rest (Qc (Value.ref b :: As).toArray) XC free := by
  obtain ⟨hrc, hrs, hfr, hlo, hws, hcw⟩ := cw.back
  have hini := cw.init
  have hK : vx_Back l R p e below s args y 3 8 (PreOf R mc ms Pc) (PostOf Qc mc ms free) (vx_Post XC mc ms free) := vx_back (bytes := bytes) (maxL := maxL) (ret := ret) hM hp.1 hrc hrs hfr hlo hws hcw (fun a' U hW => word_at hW (Or.inl (by first | rfl | simp [Cond.onTables, Cond.keeps, Cond.steady])) hini)
  obtain ⟨hx, hb, hml, ho, -⟩ := S
  obtain ⟨-, ⟨cellB, hcB, hoB, hclB⟩, hPc⟩ := hp
  intro T hT X
  rcases vx_callVU X hx (C := C) (owner := owner) (bytes := bytes) (maxL := maxL) (ret := ret) ho cw.link cw.same cw.decl cw.notMH cw.sel cw.inst cw.code hK (by rw [hT]; exact hcB) hoB hclB hg (hsize.trans hml.symm) (argsL := As) (rest := rest) (fun sig h => hn.trans (cw.len sig h)) hstack hW (by rw [hb]; exact hdg)
    (fun vm₁ hW₁ => ⟨hf.1, hf.2, hPc (T.setVm vm₁) hT hW₁⟩) with ⟨v, vm₁, ⟨U', l2, c2, s2⟩, hW₁, X', ⟨g', mk, t, L, e1, e2, hq, h1, hL, h2, h3⟩, st⟩ | ⟨q, vm₁, ⟨U', l2, c2, s2⟩, hW₁, X', ⟨g', mk, t, L, E, ce, e1, e2, hq, hce, hcv, hcl, h1, hL, h2, h3⟩, st⟩
  · dsimp only [Pt.U, Pt.locs, Pt.cells, Pt.slots] at X' e1 e2 h1 h2 h3 st
    subst h1; subst h2; subst h3
    exact Or.inl ⟨v, (T.setVm vm₁).calling g' mk (Value.ref b :: As).toArray, t, U', L, hT, X', hL, e1, e2, hq, st⟩
  · dsimp only [Pt.U, Pt.locs, Pt.cells, Pt.slots] at X' e1 e2 h1 h2 h3 st hcl
    subst h1; subst h2; subst h3
    exact Or.inr ⟨q, (T.setVm vm₁).calling g' mk (Value.ref b :: As).toArray, t, U', L, E, ce, hT, X', hL, e1, e2, hq, hce, hcv, vx_cls hW₁ hcl, st⟩
end
/-! ===== END ===== -/
/-! ===== BEGIN super.m(..) that may throw (follows va_callSU, va_runSU) ===== -/
section
variable {p : Program} {l : Launch} {e : Env} {R : Room} {s : State} {m : MethodId} {args : Array Value} {below : List Frame} {meth : Method} {c : Code} {H : Heap} {locs : List Loc} {cells slots : Nat}
theorem vx_callSU {T : State} {locs : List Loc} {cells slots : Nat} (X : Stand p l e R s m args below meth c T locs cells slots) (hexec : p.tables.exec = Jvm.exec) {own : String} {index : Nat} {y : MethodName} {bytes : ByteArray} {maxL : Nat} {ret : Option FieldType}
    (hown : s.vm.findClass own = some m.cls) (hlink : (Cond.methodLink own index y).before args s = true) (hsame : (Cond.sameMethod y.cls y.cls y.name y.desc).before args s = true) (hsup : (Cond.superclass own y.cls).before args s = true)
    (hinst : (Cond.instanceMethod y).before args s = true) (hcode : (Cond.code y bytes maxL ret).before args s = true) (hno : y.name ≠ "<init>")
    {W : Nat} {Pre : Pt → Array Value → Prop} {Post : Pt → Array Value → Option Value → Pt → Prop} {PostX : Pt → Array Value → Addr → Pt → Prop} (hK : vx_Back l R p e below s args y 3 W Pre Post PostX)
    {b : Addr} {cellB : Cell} {kB : Class} (hcell : T.heap[b]? = some cellB) (hobj : cellB.vm.isStatics = false) (hkB : s.vm.classes[cellB.cls]? = some kB)
    {g : JFrame} (hg : g.method = m) (hsize : g.locals.size = c.maxLocals) {argsL rest : List Value} (hlen : ∀ sig, parseMethodDescriptor y.desc = some sig → argsL.length = sig.parameters.length)
    (hstack : g.stack = argsL.reverse ++ .ref b :: rest) (hW : 2 * g.monitorRoom + (rest.map fun v => v.category).sum ≤ W) (hdg : decode c.code g.pc = .ok (.invokespecial index, 3))
    (hpre : ∀ vm₁, s.WarmedH vm₁ → Pre ⟨T.setVm vm₁, locs, cells, slots⟩ (Value.ref b :: argsL).toArray) :
    (∃ (v : Option Value) (vm₁ : Vm) (B : Pt), s.WarmedH vm₁ ∧ Stand p l e R s m args below meth c B.U B.locs B.cells B.slots ∧ Post ⟨T.setVm vm₁, locs, cells, slots⟩ (Value.ref b :: argsL).toArray v B ∧
      ∀ target, Steps p.tables e below (B.U.setTop { g with pc := g.pc + 3, stack := v.toList ++ rest }) target → Steps p.tables e below (T.setTop g) target) ∨
    (∃ (q : Addr) (vm₁ : Vm) (B : Pt), s.WarmedH vm₁ ∧ Stand p l e R s m args below meth c B.U B.locs B.cells B.slots ∧ PostX ⟨T.setVm vm₁, locs, cells, slots⟩ (Value.ref b :: argsL).toArray q B ∧
      Steps p.tables e below (T.setTop g) ((B.U.setTop { g with stack := rest }).pushFrame (.throwing q))) := by
  obtain ⟨mk, methM, hnamed, hmethM, hstM, habM⟩ := Cond.instanceMethod_spec hinst
  obtain ⟨methM', cM, hmethM', -, -, -, -, -, -, hsigM⟩ := Cond.code_spec hnamed hcode
  cases hmethM.symm.trans hmethM'
  obtain ⟨ps, dk, kp, hps, hdk, hkp, hsuper, -, -, hnid⟩ := Cond.superclass_spec hown hsup
  have hn : s.methodNamed? ⟨y.cls, y.name, y.desc⟩ = some mk := hnamed
  have hpm : ps = mk.cls := Option.some.inj (hps.symm.trans (findClass_of_methodNamed hnamed))
  have hsub : s.vm.isSubclass ps mk.cls = true := by rw [hpm]; simp [Vm.isSubclass, Vm.isSubclassAux]
  obtain ⟨vm₁, X₁, hstep₁⟩ := X.invokespecialUp hexec hown hlink hsame hn hmethM hstM habM hno hdk hnid hps hsuper hsub (a := b) (cell := cellB) hcell
    (fun z h => by rw [h] at hobj; cases hobj) hkB (g := g) hg (argsL := argsL) (rest := rest) (hlen _ hsigM) hstack hdg
  rcases hK m meth c ⟨T.setVm vm₁, locs, cells, slots⟩ { g with stack := rest } (.invokespecial index) mk (Value.ref b :: argsL).toArray X₁ hg hsize hdg hW (X₁.named hnamed) (hpre vm₁ X₁.warmed) with ⟨v, B, X', hpost, hsteps⟩ | ⟨q, B, X', hpost, hsteps⟩
  · exact Or.inl ⟨v, vm₁, B, X₁.warmed, X', hpost, fun target h => hstep₁ _ (by rw [doInvoke_state]; exact hsteps.trans h)⟩
  · exact Or.inr ⟨q, vm₁, B, X₁.warmed, X', hpost, hstep₁ _ (by rw [doInvoke_state]; exact hsteps)⟩
theorem vx_runSU {y : MethodName} {bytes cc : ByteArray} {maxL nL mc ms n index : Nat} {ret : Option FieldType} {ws : List Cond} {rm : Room} {Pc : Array Value → State → Prop} {Qc : Array Value → State → Outcome → State → Prop} {XC : String → State → State → Prop} {free : Addr → Prop} {Ts : List Cond} {own C : String} {cC : ClassId} {b : Addr} {As rest : List Value} {g : JFrame}
    (hat : ClassAt s C cC) (S : CallFix p m c cc nL s args Ts own) (hM : vx_Met l y ws rm Pc Qc XC mc ms free) (cw : va_CS R s args own index y bytes maxL ret ws rm mc ms n) (hp : PreV s H C b Pc As)
    (hg : g.method = m) (hn : As.length = n) (hsize : g.locals.size = nL) (hstack : g.stack = As.reverse ++ .ref b :: rest) (hW : 2 * g.monitorRoom + (rest.map fun v => v.category).sum ≤ 8) (hdg : decode cc g.pc = .ok (.invokespecial index, 3)) (hf : cells + mc ≤ R.cells ∧ slots + ms ≤ R.slots) :
    vx_Run p l e R s m args below meth c H locs cells slots mc ms g rest (Qc (Value.ref b :: As).toArray) XC free := by
  obtain ⟨⟨hrc, hrs, hfr, hlo, hws, hcw⟩, hl1, hl2, hl3, hl4, hini, hcode, hno, hlen⟩ := cw
  have hK : vx_Back l R p e below s args y 3 8 (PreOf R mc ms Pc) (PostOf Qc mc ms free) (vx_Post XC mc ms free) := vx_back (bytes := bytes) (maxL := maxL) (ret := ret) hM hp.1 hrc hrs hfr hlo hws hcw (fun a' U hW => word_at hW (Or.inl (by first | rfl | simp [Cond.onTables, Cond.keeps, Cond.steady])) hini)
  obtain ⟨hx, hb, hml, ho, -⟩ := S
  obtain ⟨-, ⟨cellB, hcB, hoB, hclB⟩, hPc⟩ := hp
  obtain ⟨hfc, kB, hkB, -⟩ := hat
  cases hfc.symm.trans hclB
  intro T hT X
  rcases vx_callSU X hx (bytes := bytes) (maxL := maxL) (ret := ret) ho hl1 hl2 hl3 hl4 hcode hno hK (by rw [hT]; exact hcB) hoB hkB hg (hsize.trans hml.symm) (argsL := As) (rest := rest) (fun sig h => hn.trans (hlen sig h)) hstack hW (by rw [hb]; exact hdg)
    (fun vm₁ hW₁ => ⟨hf.1, hf.2, hPc (T.setVm vm₁) hT hW₁⟩) with ⟨v, vm₁, ⟨U', l2, c2, s2⟩, hW₁, X', ⟨g', mk, t, L, e1, e2, hq, h1, hL, h2, h3⟩, st⟩ | ⟨q, vm₁, ⟨U', l2, c2, s2⟩, hW₁, X', ⟨g', mk, t, L, E, ce, e1, e2, hq, hce, hcv, hcl, h1, hL, h2, h3⟩, st⟩
  · dsimp only [Pt.U, Pt.locs, Pt.cells, Pt.slots] at X' e1 e2 h1 h2 h3 st
    subst h1; subst h2; subst h3
    exact Or.inl ⟨v, (T.setVm vm₁).calling g' mk (Value.ref b :: As).toArray, t, U', L, hT, X', hL, e1, e2, hq, st⟩
  · dsimp only [Pt.U, Pt.locs, Pt.cells, Pt.slots] at X' e1 e2 h1 h2 h3 st hcl
    subst h1; subst h2; subst h3
    exact Or.inr ⟨q, (T.setVm vm₁).calling g' mk (Value.ref b :: As).toArray, t, U', L, E, ce, hT, X', hL, e1, e2, hq, hce, hcv, vx_cls hW₁ hcl, st⟩
end
/-! ===== END ===== -/
/-! ===== BEGIN a private method of a nest mate that may throw (follows va_callVN, va_callSN, va_runVN, va_runSN) ===== -/
section
variable {p : Program} {l : Launch} {e : Env} {R : Room} {s : State} {m : MethodId} {args : Array Value} {below : List Frame} {meth : Method} {c : Code} {H : Heap} {locs : List Loc} {cells slots : Nat}
variable {T : State}
theorem vx_callVN (X : Stand p l e R s m args below meth c T locs cells slots) (hexec : p.tables.exec = Jvm.exec) {own C : String} {index : Nat} {host : String} {y : MethodName} {bytes : ByteArray} {maxL : Nat} {ret : Option FieldType}
    (hown : s.vm.findClass own = some m.cls) (hlink : (Cond.methodLinkNest own index y host).before args s = true) (hinst : (Cond.instanceMethod y).before args s = true) (hsel : (Cond.selects C y y).before args s = true)
    (hcode : (Cond.code y bytes maxL ret).before args s = true) (hy : y.cls ≠ "java/lang/invoke/MethodHandle" ∧ y.cls ≠ "java/lang/invoke/VarHandle")
    {W : Nat} {Pre : Pt → Array Value → Prop} {Post : Pt → Array Value → Option Value → Pt → Prop} {PostX : Pt → Array Value → Addr → Pt → Prop} (hK : vx_Back l R p e below s args y 3 W Pre Post PostX)
    {b : Addr} {cellB : Cell} (hcell : T.heap[b]? = some cellB) (hobj : cellB.vm.isStatics = false) (hcls : s.vm.findClass C = some cellB.cls)
    {g : JFrame} (hg : g.method = m) (hsize : g.locals.size = c.maxLocals) {argsL rest : List Value} (hlen : ∀ sig, parseMethodDescriptor y.desc = some sig → argsL.length = sig.parameters.length)
    (hstack : g.stack = argsL.reverse ++ .ref b :: rest) (hW : 2 * g.monitorRoom + (rest.map fun v => v.category).sum ≤ W) (hdg : decode c.code g.pc = .ok (.invokevirtual index, 3))
    (hpre : ∀ vm₁, s.WarmedH vm₁ → Pre ⟨T.setVm vm₁, locs, cells, slots⟩ (Value.ref b :: argsL).toArray) :
    (∃ (v : Option Value) (vm₁ : Vm) (B : Pt), s.WarmedH vm₁ ∧ Stand p l e R s m args below meth c B.U B.locs B.cells B.slots ∧ Post ⟨T.setVm vm₁, locs, cells, slots⟩ (Value.ref b :: argsL).toArray v B ∧
      ∀ target, Steps p.tables e below (B.U.setTop { g with pc := g.pc + 3, stack := v.toList ++ rest }) target → Steps p.tables e below (T.setTop g) target) ∨
    (∃ (q : Addr) (vm₁ : Vm) (B : Pt), s.WarmedH vm₁ ∧ Stand p l e R s m args below meth c B.U B.locs B.cells B.slots ∧ PostX ⟨T.setVm vm₁, locs, cells, slots⟩ (Value.ref b :: argsL).toArray q B ∧
      Steps p.tables e below (T.setTop g) ((B.U.setTop { g with stack := rest }).pushFrame (.throwing q))) := by
  obtain ⟨mk, methM, hnamed, hmethM, hstM, habM⟩ := Cond.instanceMethod_spec hinst
  obtain ⟨methM', cM, hmethM', -, -, -, -, -, -, hsigM⟩ := Cond.code_spec hnamed hcode
  cases hmethM.symm.trans hmethM'
  obtain ⟨c2, r2, m2, q1, q2, q3, q4, kP, hkP, hkPi⟩ := Cond.selects_spec hsel
  cases hcls.symm.trans q1
  cases (State.methodFound?_of_named hnamed hy).symm.trans q2
  cases hnamed.symm.trans q3
  have hselP : selectMethod e.platform s.vm cellB.cls mk = .method mk := by rw [Launch.admits_selectMethod X.admits]; exact q4
  obtain ⟨vm₁, X₁, hstep₁⟩ := X.invokevirtualNest hexec hown hlink hnamed hmethM hstM hkP hkPi hy (a := b) (cell := cellB) hcell
    (fun z h => by rw [h] at hobj; cases hobj) hselP hmethM habM hkP hkPi (g := g) hg (argsL := argsL) (rest := rest) (hlen _ hsigM) hstack hdg
  rcases hK m meth c ⟨T.setVm vm₁, locs, cells, slots⟩ { g with stack := rest } (.invokevirtual index) mk (Value.ref b :: argsL).toArray X₁ hg hsize hdg hW (X₁.named hnamed) (hpre vm₁ X₁.warmed) with ⟨v, B, X', hpost, hsteps⟩ | ⟨q, B, X', hpost, hsteps⟩
  · exact Or.inl ⟨v, vm₁, B, X₁.warmed, X', hpost, fun target h => hstep₁ _ fun acts => by rw [doInvoke_state]; exact hsteps.trans h⟩
  · exact Or.inr ⟨q, vm₁, B, X₁.warmed, X', hpost, hstep₁ _ fun acts => by rw [doInvoke_state]; exact hsteps⟩
theorem vx_callSN (X : Stand p l e R s m args below meth c T locs cells slots) (hexec : p.tables.exec = Jvm.exec) {own : String} {index : Nat} {host : String} {y : MethodName} {bytes : ByteArray} {maxL : Nat} {ret : Option FieldType}
    (hown : s.vm.findClass own = some m.cls) (hlink : (Cond.methodLinkNest own index y host).before args s = true) (hstat : (Cond.static y).before args s = true) (hinit : (Cond.initialized y.cls).before args s = true)
    (hcode : (Cond.code y bytes maxL ret).before args s = true) (hy : y.cls ≠ "java/lang/invoke/MethodHandle" ∧ y.cls ≠ "java/lang/invoke/VarHandle")
    {W : Nat} {Pre : Pt → Array Value → Prop} {Post : Pt → Array Value → Option Value → Pt → Prop} {PostX : Pt → Array Value → Addr → Pt → Prop} (hK : vx_Back l R p e below s args y 3 W Pre Post PostX)
    {g : JFrame} (hg : g.method = m) (hsize : g.locals.size = c.maxLocals) {argsL rest : List Value} (hlen : ∀ sig, parseMethodDescriptor y.desc = some sig → argsL.length = sig.parameters.length)
    (hstack : g.stack = argsL.reverse ++ rest) (hW : 2 * g.monitorRoom + (rest.map fun v => v.category).sum ≤ W) (hdg : decode c.code g.pc = .ok (.invokestatic index, 3))
    (hpre : ∀ vm₁, s.WarmedH vm₁ → Pre ⟨T.setVm vm₁, locs, cells, slots⟩ argsL.toArray) :
    (∃ (v : Option Value) (vm₁ : Vm) (B : Pt), s.WarmedH vm₁ ∧ Stand p l e R s m args below meth c B.U B.locs B.cells B.slots ∧ Post ⟨T.setVm vm₁, locs, cells, slots⟩ argsL.toArray v B ∧
      ∀ target, Steps p.tables e below (B.U.setTop { g with pc := g.pc + 3, stack := v.toList ++ rest }) target → Steps p.tables e below (T.setTop g) target) ∨
    (∃ (q : Addr) (vm₁ : Vm) (B : Pt), s.WarmedH vm₁ ∧ Stand p l e R s m args below meth c B.U B.locs B.cells B.slots ∧ PostX ⟨T.setVm vm₁, locs, cells, slots⟩ argsL.toArray q B ∧
      Steps p.tables e below (T.setTop g) ((B.U.setTop { g with stack := rest }).pushFrame (.throwing q))) := by
  obtain ⟨mk, hnamed⟩ := Cond.code_named hcode
  obtain ⟨methM, cM, hmethM, -, -, -, -, -, -, hsigM⟩ := Cond.code_spec hnamed hcode
  have hstatic : methM.isStatic = true := Cond.static_spec hnamed hmethM hstat
  obtain ⟨kP, hkP, -⟩ := className_of_methodNamed hnamed
  have hinitP : kP.init = .initialized := Cond.initialized_spec (findClass_of_methodNamed hnamed) hkP hinit
  obtain ⟨vm₁, X₁, hstep₁⟩ := X.invokestaticNest hexec hown hlink hnamed hmethM hstatic hkP hinitP hy (g := g) hg (argsL := argsL) (rest := rest) (hlen _ hsigM) hstack hdg
  rcases hK m meth c ⟨T.setVm vm₁, locs, cells, slots⟩ { g with stack := rest } (.invokestatic index) mk argsL.toArray X₁ hg hsize hdg hW (X₁.named hnamed) (hpre vm₁ X₁.warmed) with ⟨v, B, X', hpost, hsteps⟩ | ⟨q, B, X', hpost, hsteps⟩
  · exact Or.inl ⟨v, vm₁, B, X₁.warmed, X', hpost, fun target h => hstep₁ _ fun acts => by rw [doInvoke_state]; exact hsteps.trans h⟩
  · exact Or.inr ⟨q, vm₁, B, X₁.warmed, X', hpost, hstep₁ _ fun acts => by rw [doInvoke_state]; exact hsteps⟩
theorem vx_runVN {y : MethodName} {bytes cc : ByteArray} {maxL nL mc ms n index : Nat} {ret : Option FieldType} {ws : List Cond} {rm : Room} {Pc : Array Value → State → Prop} {Qc : Array Value → State → Outcome → State → Prop} {XC : String → State → State → Prop} {free : Addr → Prop} {Ts : List Cond} {own C host : String} {b : Addr} {As rest : List Value} {g : JFrame}
    (S : CallFix p m c cc nL s args Ts own) (hM : vx_Met l y ws rm Pc Qc XC mc ms free) (cw : va_CN R s args own index y host bytes maxL ret ws rm mc ms n ∧ (Cond.instanceMethod y).before args s = true ∧ (Cond.selects C y y).before args s = true) (hp : PreV s H C b Pc As)
    (hg : g.method = m) (hn : As.length = n) (hsize : g.locals.size = nL) (hstack : g.stack = As.reverse ++ .ref b :: rest) (hW : 2 * g.monitorRoom + (rest.map fun v => v.category).sum ≤ 8) (hdg : decode cc g.pc = .ok (.invokevirtual index, 3)) (hf : cells + mc ≤ R.cells ∧ slots + ms ≤ R.slots) :
    vx_Run p l e R s m args below meth c H locs cells slots mc ms g rest (Qc (Value.ref b :: As).toArray) XC free := by
  obtain ⟨⟨⟨hrc, hrs, hfr, hlo, hws, hcw⟩, hcode, hini, hy, hlen, hl⟩, hx1, hx2⟩ := cw
  have hK : vx_Back l R p e below s args y 3 8 (PreOf R mc ms Pc) (PostOf Qc mc ms free) (vx_Post XC mc ms free) := vx_back (bytes := bytes) (maxL := maxL) (ret := ret) hM hp.1 hrc hrs hfr hlo hws hcw (fun a' U hW => word_at hW (Or.inl (by first | rfl | simp [Cond.onTables, Cond.keeps, Cond.steady])) hini)
  obtain ⟨hx, hb, hml, ho, -⟩ := S
  obtain ⟨-, ⟨cellB, hcB, hoB, hclB⟩, hPc⟩ := hp
  intro T hT X
  rcases vx_callVN X hx (C := C) (bytes := bytes) (maxL := maxL) (ret := ret) ho hl hx1 hx2 hcode hy hK (by rw [hT]; exact hcB) hoB hclB hg (hsize.trans hml.symm) (argsL := As) (rest := rest) (fun sig h => hn.trans (hlen sig h)) hstack hW (by rw [hb]; exact hdg)
    (fun vm₁ hW₁ => ⟨hf.1, hf.2, hPc (T.setVm vm₁) hT hW₁⟩) with ⟨v, vm₁, ⟨U', l2, c2, s2⟩, hW₁, X', ⟨g', mk, t, L, e1, e2, hq, h1, hL, h2, h3⟩, st⟩ | ⟨q, vm₁, ⟨U', l2, c2, s2⟩, hW₁, X', ⟨g', mk, t, L, E, ce, e1, e2, hq, hce, hcv, hcl, h1, hL, h2, h3⟩, st⟩
  · dsimp only [Pt.U, Pt.locs, Pt.cells, Pt.slots] at X' e1 e2 h1 h2 h3 st
    subst h1; subst h2; subst h3
    exact Or.inl ⟨v, (T.setVm vm₁).calling g' mk (Value.ref b :: As).toArray, t, U', L, hT, X', hL, e1, e2, hq, st⟩
  · dsimp only [Pt.U, Pt.locs, Pt.cells, Pt.slots] at X' e1 e2 h1 h2 h3 st hcl
    subst h1; subst h2; subst h3
    exact Or.inr ⟨q, (T.setVm vm₁).calling g' mk (Value.ref b :: As).toArray, t, U', L, E, ce, hT, X', hL, e1, e2, hq, hce, hcv, vx_cls hW₁ hcl, st⟩
theorem vx_runSN {y : MethodName} {bytes cc : ByteArray} {maxL nL mc ms n index : Nat} {ret : Option FieldType} {ws : List Cond} {rm : Room} {Pc : Array Value → State → Prop} {Qc : Array Value → State → Outcome → State → Prop} {XC : String → State → State → Prop} {free : Addr → Prop} {Ts : List Cond} {own host : String} {As rest : List Value} {g : JFrame}
    (S : CallFix p m c cc nL s args Ts own) (hM : vx_Met l y ws rm Pc Qc XC mc ms free) (cw : va_CN R s args own index y host bytes maxL ret ws rm mc ms n ∧ (Cond.static y).before args s = true ∧ True) (hp : PreS s H Pc As)
    (hg : g.method = m) (hn : As.length = n) (hsize : g.locals.size = nL) (hstack : g.stack = As.reverse ++ rest) (hW : 2 * g.monitorRoom + (rest.map fun v => v.category).sum ≤ 8) (hdg : decode cc g.pc = .ok (.invokestatic index, 3)) (hf : cells + mc ≤ R.cells ∧ slots + ms ≤ R.slots) :
    vx_Run p l e R s m args below meth c H locs cells slots mc ms g rest (Qc As.toArray) XC free := by
  obtain ⟨⟨⟨hrc, hrs, hfr, hlo, hws, hcw⟩, hcode, hini, hy, hlen, hl⟩, hx1, hx2⟩ := cw
  have hK : vx_Back l R p e below s args y 3 8 (PreOf R mc ms Pc) (PostOf Qc mc ms free) (vx_Post XC mc ms free) := vx_back (bytes := bytes) (maxL := maxL) (ret := ret) hM hp.1 hrc hrs hfr hlo hws hcw (fun a' U hW => word_at hW (Or.inl (by first | rfl | simp [Cond.onTables, Cond.keeps, Cond.steady])) hini)
  obtain ⟨hx, hb, hml, ho, -⟩ := S
  have hPc := hp.2
  intro T hT X
  rcases vx_callSN X hx (bytes := bytes) (maxL := maxL) (ret := ret) ho hl hx1 hini hcode hy hK hg (hsize.trans hml.symm) (argsL := As) (rest := rest) (fun sig h => hn.trans (hlen sig h)) hstack hW (by rw [hb]; exact hdg)
    (fun vm₁ hW₁ => ⟨hf.1, hf.2, hPc (T.setVm vm₁) hT hW₁⟩) with ⟨v, vm₁, ⟨U', l2, c2, s2⟩, hW₁, X', ⟨g', mk, t, L, e1, e2, hq, h1, hL, h2, h3⟩, st⟩ | ⟨q, vm₁, ⟨U', l2, c2, s2⟩, hW₁, X', ⟨g', mk, t, L, E, ce, e1, e2, hq, hce, hcv, hcl, h1, hL, h2, h3⟩, st⟩
  · dsimp only [Pt.U, Pt.locs, Pt.cells, Pt.slots] at X' e1 e2 h1 h2 h3 st
    subst h1; subst h2; subst h3
    exact Or.inl ⟨v, (T.setVm vm₁).calling g' mk As.toArray, t, U', L, hT, X', hL, e1, e2, hq, st⟩
  · dsimp only [Pt.U, Pt.locs, Pt.cells, Pt.slots] at X' e1 e2 h1 h2 h3 st hcl
    subst h1; subst h2; subst h3
    exact Or.inr ⟨q, (T.setVm vm₁).calling g' mk As.toArray, t, U', L, E, ce, hT, X', hL, e1, e2, hq, hce, hcv, vx_cls hW₁ hcl, st⟩
end
/-! ===== END ===== -/
/-! ===== BEGIN calls by an interface of methods that may throw (vx_callIF, vx_runF follow va_callIF, va_runF of this kit) ===== -/
section
variable {p : Program} {l : Launch} {e : Env} {R : Room} {s : State} {m : MethodId} {args : Array Value} {below : List Frame} {meth : Method} {c : Code} {H : Heap} {locs : List Loc} {cells slots : Nat} {Q : State → Prop}
variable {mc ms : Nat} {free : Addr → Prop} {A0 A1 : Nat → Prop} {H0 : Heap} {a : Array Value} {pc : Nat} {ls : Array Slot} {st0 rest : List Value}
def vx_Run5 (p : Program) (l : Launch) (e : Env) (R : Room) (s : State) (m : MethodId) (args : Array Value) (below : List Frame) (meth : Method) (c : Code) (H : Heap) (locs : List Loc) (cells slots mc ms : Nat) (g : JFrame) (rest : List Value) (Qa : State → Outcome → State → Prop) (XC : String → State → State → Prop) (free : Addr → Prop) : Prop :=
  ∀ T : State, T.heap = H → Stand p l e R s m args below meth c T locs cells slots →
    (∃ (v : Option Value) (st₀ t T' : State) (L : List Loc), st₀.heap = H ∧ Stand p l e R s m args below meth c T' (locs ++ L) (cells + mc) (slots + ms) ∧ (∀ q ∈ L, free q.base) ∧ T'.heap = t.heap ∧ T'.vm = t.vm ∧ Qa st₀ (.returned v) t ∧
      Goes p e below T g T' { g with pc := g.pc + 5, stack := v.toList ++ rest }) ∨
    (∃ (q : Addr) (st₀ t T' : State) (L : List Loc) (E : String) (ce : Cell), st₀.heap = H ∧ Stand p l e R s m args below meth c T' (locs ++ L) (cells + mc) (slots + ms) ∧ (∀ z ∈ L, free z.base) ∧ T'.heap = t.heap ∧ T'.vm = t.vm ∧ XC E st₀ t ∧ t.heap[q]? = some ce ∧ ce.vm = .none ∧ s.vm.findClass E = some ce.cls ∧
      Steps p.tables e below (T.setTop g) ((T'.setTop { g with stack := rest }).pushFrame (.throwing q)))
theorem vx_callIF {T : State} (X : Stand p l e R s m args below meth c T locs cells slots) (hexec : p.tables.exec = Jvm.exec) {own C : String} {index count : Nat} {x y : MethodName} {bytes : ByteArray} {maxL : Nat} {ret : Option FieldType}
    (hown : s.vm.findClass own = some m.cls) (hlink : (Cond.methodLink own index x).before args s = true) (hdecl : (Cond.declares x).before args s = true) (hface : (Cond.interfaceMethod x.cls x.cls x.name x.desc).before args s = true)
    (hsel : (Cond.selects C x y).before args s = true) (hinst : (Cond.instanceMethod y).before args s = true) (hpub : (Cond.publicMethod y).before args s = true) (hunh : (Cond.unhidden C x.name x.desc).before args s = true)
    (hcast : (Cond.castable C x.cls).before args s = true) (hcode : (Cond.code y bytes maxL ret).before args s = true) (hx : x.cls ≠ "java/lang/invoke/MethodHandle" ∧ x.cls ≠ "java/lang/invoke/VarHandle")
    {W9 : Nat} {Pre : Pt → Array Value → Prop} {Post : Pt → Array Value → Option Value → Pt → Prop} {PostX : Pt → Array Value → Addr → Pt → Prop} (hK : vx_Back l R p e below s args y 5 W9 Pre Post PostX)
    {b : Addr} {cellB : Cell} {kB : Class} (hcell : T.heap[b]? = some cellB) (hobj : cellB.vm.isStatics = false) (hcls : s.vm.findClass C = some cellB.cls) (hkB : s.vm.classes[cellB.cls]? = some kB)
    {g : JFrame} (hg : g.method = m) (hsize : g.locals.size = c.maxLocals) {argsL rest : List Value} (hlen : ∀ sig, parseMethodDescriptor x.desc = some sig → argsL.length = sig.parameters.length)
    (hstack : g.stack = argsL.reverse ++ .ref b :: rest) (hW : 2 * g.monitorRoom + (rest.map fun v => v.category).sum ≤ W9) (hdg : decode c.code g.pc = .ok (.invokeinterface index count, 5))
    (hpre : ∀ vm₁, s.WarmedH vm₁ → Pre ⟨T.setVm vm₁, locs, cells, slots⟩ (Value.ref b :: argsL).toArray) :
    (∃ (v : Option Value) (vm₁ : Vm) (B : Pt), s.WarmedH vm₁ ∧ Stand p l e R s m args below meth c B.U B.locs B.cells B.slots ∧ Post ⟨T.setVm vm₁, locs, cells, slots⟩ (Value.ref b :: argsL).toArray v B ∧
      ∀ target, Steps p.tables e below (B.U.setTop { g with pc := g.pc + 5, stack := v.toList ++ rest }) target → Steps p.tables e below (T.setTop g) target) ∨
    (∃ (q : Addr) (vm₁ : Vm) (B : Pt), s.WarmedH vm₁ ∧ Stand p l e R s m args below meth c B.U B.locs B.cells B.slots ∧ PostX ⟨T.setVm vm₁, locs, cells, slots⟩ (Value.ref b :: argsL).toArray q B ∧
      Steps p.tables e below (T.setTop g) ((B.U.setTop { g with stack := rest }).pushFrame (.throwing q))) := by
  obtain ⟨r0, r, hn, hrm, hstR, hsigR⟩ := Cond.declares_spec hdecl
  obtain ⟨cL, kL, r1, hcL, hkL, hiL, hfoundL, hn1⟩ := Cond.interfaceMethod_spec hface
  cases hn.symm.trans hn1
  have hr0cls : r0.cls = cL := Option.some.inj ((findClass_of_methodNamed hn).symm.trans hcL)
  obtain ⟨hnameR, hdescR⟩ := name_of_methodNamed hn hrm
  obtain ⟨mk, methM, hnamed, hmethM, -, habM⟩ := Cond.instanceMethod_spec hinst
  obtain ⟨c2, r2, m2, q1, q2, q3, q4, -⟩ := Cond.selects_spec hsel
  cases hcls.symm.trans q1
  cases hfoundL.symm.trans q2
  cases hnamed.symm.trans q3
  have hselP : selectMethod e.platform s.vm cellB.cls r0 = .method mk := by rw [Launch.admits_selectMethod X.admits]; exact q4
  have hpubM : hasFlag methM.accessFlags Acc.public_ = true := Cond.publicMethod_spec hnamed hmethM hpub
  have hway : ((cellB.cls :: s.vm.superclasses cellB.cls).any fun k => (declaredIn s.vm r.name r.desc k).any fun (_, z) => z.isPrivate || z.isStatic) = false := by
    rw [hnameR, hdescR]; exact Cond.unhidden_spec hcls hunh
  obtain ⟨c3, t3, w1, w2, w3⟩ := Cond.castable_spec hcast
  cases hcls.symm.trans w1
  cases hcL.symm.trans w2
  obtain ⟨vm₁, X₁, hstep₁⟩ := X.invokeinterface hexec hown hlink hn hrm hstR (by rw [hr0cls]; exact hkL) hiL hx (a := b) (cell := cellB) (kcell := kB) hcell
    (fun z h => by rw [h] at hobj; cases hobj) hkB (by rw [hr0cls]; exact w3) hselP hmethM hway hpubM habM (g := g) hg (argsL := argsL) (rest := rest) (hlen _ hsigR) hstack hdg
  rcases hK m meth c ⟨T.setVm vm₁, locs, cells, slots⟩ { g with stack := rest } (.invokeinterface index count) mk (Value.ref b :: argsL).toArray X₁ hg hsize hdg hW (X₁.named hnamed) (hpre vm₁ X₁.warmed) with ⟨v, B, X', hpost, hsteps⟩ | ⟨q, B, X', hpost, hsteps⟩
  · exact Or.inl ⟨v, vm₁, B, X₁.warmed, X', hpost, fun target h => hstep₁ _ fun acts => by rw [doInvoke_state]; exact hsteps.trans h⟩
  · exact Or.inr ⟨q, vm₁, B, X₁.warmed, X', hpost, hstep₁ _ fun acts => by rw [doInvoke_state]; exact hsteps⟩
theorem vx_runF {x y : MethodName} {bytes cc : ByteArray} {maxL nL mc ms n index count : Nat} {ret : Option FieldType} {ws : List Cond} {rm : Room} {Pc : Array Value → State → Prop} {Qc : Array Value → State → Outcome → State → Prop} {XC : String → State → State → Prop} {free : Addr → Prop} {Ts : List Cond} {own C : String} {cC : ClassId} {b : Addr} {As rest : List Value} {g : JFrame}
    (hat : ClassAt s C cC) (S : CallFix p m c cc nL s args Ts own) (hM : vx_Met l y ws rm Pc Qc XC mc ms free) (cw : va_CI R s args own C index x y bytes maxL ret ws rm mc ms n) (hp : PreV s H C b Pc As)
    (hg : g.method = m) (hn : As.length = n) (hsize : g.locals.size = nL) (hstack : g.stack = As.reverse ++ .ref b :: rest) (hW : 2 * g.monitorRoom + (rest.map fun v => v.category).sum ≤ 8) (hdg : decode cc g.pc = .ok (.invokeinterface index count, 5)) (hf : cells + mc ≤ R.cells ∧ slots + ms ≤ R.slots) :
    vx_Run5 p l e R s m args below meth c H locs cells slots mc ms g rest (Qc (Value.ref b :: As).toArray) XC free := by
  obtain ⟨hrc, hrs, hfr, hlo, hws, hcw⟩ := cw.back
  have hini := cw.init
  have hK : vx_Back l R p e below s args y 5 8 (PreOf R mc ms Pc) (PostOf Qc mc ms free) (vx_Post XC mc ms free) := vx_back (bytes := bytes) (maxL := maxL) (ret := ret) hM hp.1 hrc hrs hfr hlo hws hcw (fun a' U hW => word_at hW (Or.inl (by first | rfl | simp [Cond.onTables, Cond.keeps, Cond.steady])) hini)
  obtain ⟨hx, hb, hml, ho, -⟩ := S
  obtain ⟨-, ⟨cellB, hcB, hoB, hclB⟩, hPc⟩ := hp
  obtain ⟨hfc, kB, hkB, -⟩ := hat
  cases hfc.symm.trans hclB
  intro T hT X
  rcases vx_callIF X hx (C := C) (bytes := bytes) (maxL := maxL) (ret := ret) ho cw.link cw.decl cw.face cw.sel cw.inst cw.pub cw.unh cw.cast cw.code cw.notMH hK (by rw [hT]; exact hcB) hoB hclB hkB hg (hsize.trans hml.symm) (argsL := As) (rest := rest) (fun sig h => hn.trans (cw.len sig h)) hstack hW (by rw [hb]; exact hdg)
    (fun vm₁ hW₁ => ⟨hf.1, hf.2, hPc (T.setVm vm₁) hT hW₁⟩) with ⟨v, vm₁, ⟨U', l2, c2, s2⟩, hW₁, X', ⟨g', mk, t, L, e1, e2, hq, h1, hL, h2, h3⟩, st⟩ | ⟨q, vm₁, ⟨U', l2, c2, s2⟩, hW₁, X', ⟨g', mk, t, L, E, ce, e1, e2, hq, hce, hcv, hcl, h1, hL, h2, h3⟩, st⟩
  · dsimp only [Pt.U, Pt.locs, Pt.cells, Pt.slots] at X' e1 e2 h1 h2 h3 st
    subst h1; subst h2; subst h3
    exact Or.inl ⟨v, (T.setVm vm₁).calling g' mk (Value.ref b :: As).toArray, t, U', L, hT, X', hL, e1, e2, hq, st⟩
  · dsimp only [Pt.U, Pt.locs, Pt.cells, Pt.slots] at X' e1 e2 h1 h2 h3 st hcl
    subst h1; subst h2; subst h3
    exact Or.inr ⟨q, (T.setVm vm₁).calling g' mk (Value.ref b :: As).toArray, t, U', L, E, ce, hT, X', hL, e1, e2, hq, hce, hcv, vx_cls hW₁ hcl, st⟩
theorem vx_callFv {S SX : Type} {post : S → Prop} {px : SX → Prop} {B : S → State → Prop} {BX : String → SX → State → Prop} {AX : Nat → Prop} (hr : vx_Run5 p l e R s m args below meth c H locs cells slots mc ms (F0 m pc ls st0) rest (va_Qv post B A1 a) (vx_X px BX AX) free) (hS : va_S A0 H0 H locs) (hA : ∀ q, q < H.size → A1 q → A0 q) (hf : ∀ q, free q → A0 q) (hAX : ∀ q, q < H.size → AX q → A0 q)
    (kx : ∀ (E : String) (ce : Cell) (q9 : Addr) (u : SX) (t : State) (H1 : Heap) (locs1 : List Loc), t.heap = H1 → s.vm.Alike t.vm → px u → BX E u t → H.size ≤ H1.size → (∀ q : Nat, q < H.size → ¬ AX q → H1[q]? = H[q]?) → va_S A0 H0 H1 locs1 → H1[q9]? = some ce → ce.vm = .none → s.vm.findClass E = some ce.cls → vx_W p l e R s m args below meth c H1 locs1 (cells + mc) (slots + ms) Q (F0 m pc ls rest) q9)
    (kk : ∀ (u : S) (t : State) (H1 : Heap) (locs1 : List Loc), t.heap = H1 → s.vm.Alike t.vm → post u → B u t → H.size ≤ H1.size → (∀ q : Nat, q < H.size → ¬ A1 q → H1[q]? = H[q]?) → va_S A0 H0 H1 locs1 → W p l e R s m args below meth c H1 locs1 (cells + mc) (slots + ms) Q (F0 m (pc + 5) ls (rest))) : W p l e R s m args below meth c H locs cells slots Q (F0 m pc ls st0) := by
  intro T hT X
  rcases hr T hT X with ⟨v, st₀, t, T', L, h0, X', hL, e1, e2, ⟨⟨u, hv, hp, hb⟩, hF⟩, st⟩ | ⟨q, st₀, t, T', L, E, ce, h0, X', hL, e1, e2, ⟨u, hp, hb, hF⟩, hce, hcv, hcl, st⟩
  · cases hv
    obtain ⟨k1, k2, k3⟩ := vx_keep h0 e1 hS hA hf hL hF
    obtain ⟨t2, a1, b1⟩ := kk u t T'.heap (locs ++ L) e1.symm (by rw [← e2]; exact X'.warmed.alike) hp hb k1 k2 k3 T' rfl X'
    exact ⟨t2, st t2 a1, b1⟩
  · obtain ⟨k1, k2, k3⟩ := vx_keep h0 e1 hS hAX hf hL hF
    obtain ⟨t2, a1, b1⟩ := kx E ce q u t T'.heap (locs ++ L) e1.symm (by rw [← e2]; exact X'.warmed.alike) hp hb k1 k2 k3 (by rw [e1]; exact hce) hcv hcl T' rfl X'
    exact ⟨t2, st.trans a1, b1⟩
theorem vx_callFi {S SX : Type} {post : Int32 → S → Prop} {px : SX → Prop} {B : S → State → Prop} {BX : String → SX → State → Prop} {AX : Nat → Prop} (hr : vx_Run5 p l e R s m args below meth c H locs cells slots mc ms (F0 m pc ls st0) rest (va_Qi post B A1 a) (vx_X px BX AX) free) (hS : va_S A0 H0 H locs) (hA : ∀ q, q < H.size → A1 q → A0 q) (hf : ∀ q, free q → A0 q) (hAX : ∀ q, q < H.size → AX q → A0 q)
    (kx : ∀ (E : String) (ce : Cell) (q9 : Addr) (u : SX) (t : State) (H1 : Heap) (locs1 : List Loc), t.heap = H1 → s.vm.Alike t.vm → px u → BX E u t → H.size ≤ H1.size → (∀ q : Nat, q < H.size → ¬ AX q → H1[q]? = H[q]?) → va_S A0 H0 H1 locs1 → H1[q9]? = some ce → ce.vm = .none → s.vm.findClass E = some ce.cls → vx_W p l e R s m args below meth c H1 locs1 (cells + mc) (slots + ms) Q (F0 m pc ls rest) q9)
    (kk : ∀ (r : Int32) (u : S) (t : State) (H1 : Heap) (locs1 : List Loc), t.heap = H1 → s.vm.Alike t.vm → post r u → B u t → H.size ≤ H1.size → (∀ q : Nat, q < H.size → ¬ A1 q → H1[q]? = H[q]?) → va_S A0 H0 H1 locs1 → W p l e R s m args below meth c H1 locs1 (cells + mc) (slots + ms) Q (F0 m (pc + 5) ls (.int r :: rest))) : W p l e R s m args below meth c H locs cells slots Q (F0 m pc ls st0) := by
  intro T hT X
  rcases hr T hT X with ⟨v, st₀, t, T', L, h0, X', hL, e1, e2, ⟨⟨r, u, hv, hp, hb⟩, hF⟩, st⟩ | ⟨q, st₀, t, T', L, E, ce, h0, X', hL, e1, e2, ⟨u, hp, hb, hF⟩, hce, hcv, hcl, st⟩
  · cases hv
    obtain ⟨k1, k2, k3⟩ := vx_keep h0 e1 hS hA hf hL hF
    obtain ⟨t2, a1, b1⟩ := kk r u t T'.heap (locs ++ L) e1.symm (by rw [← e2]; exact X'.warmed.alike) hp hb k1 k2 k3 T' rfl X'
    exact ⟨t2, st t2 a1, b1⟩
  · obtain ⟨k1, k2, k3⟩ := vx_keep h0 e1 hS hAX hf hL hF
    obtain ⟨t2, a1, b1⟩ := kx E ce q u t T'.heap (locs ++ L) e1.symm (by rw [← e2]; exact X'.warmed.alike) hp hb k1 k2 k3 (by rw [e1]; exact hce) hcv hcl T' rfl X'
    exact ⟨t2, st.trans a1, b1⟩
theorem vx_callFl {S SX : Type} {post : Int64 → S → Prop} {px : SX → Prop} {B : S → State → Prop} {BX : String → SX → State → Prop} {AX : Nat → Prop} (hr : vx_Run5 p l e R s m args below meth c H locs cells slots mc ms (F0 m pc ls st0) rest (va_Ql post B A1 a) (vx_X px BX AX) free) (hS : va_S A0 H0 H locs) (hA : ∀ q, q < H.size → A1 q → A0 q) (hf : ∀ q, free q → A0 q) (hAX : ∀ q, q < H.size → AX q → A0 q)
    (kx : ∀ (E : String) (ce : Cell) (q9 : Addr) (u : SX) (t : State) (H1 : Heap) (locs1 : List Loc), t.heap = H1 → s.vm.Alike t.vm → px u → BX E u t → H.size ≤ H1.size → (∀ q : Nat, q < H.size → ¬ AX q → H1[q]? = H[q]?) → va_S A0 H0 H1 locs1 → H1[q9]? = some ce → ce.vm = .none → s.vm.findClass E = some ce.cls → vx_W p l e R s m args below meth c H1 locs1 (cells + mc) (slots + ms) Q (F0 m pc ls rest) q9)
    (kk : ∀ (r : Int64) (u : S) (t : State) (H1 : Heap) (locs1 : List Loc), t.heap = H1 → s.vm.Alike t.vm → post r u → B u t → H.size ≤ H1.size → (∀ q : Nat, q < H.size → ¬ A1 q → H1[q]? = H[q]?) → va_S A0 H0 H1 locs1 → W p l e R s m args below meth c H1 locs1 (cells + mc) (slots + ms) Q (F0 m (pc + 5) ls (.long r :: rest))) : W p l e R s m args below meth c H locs cells slots Q (F0 m pc ls st0) := by
  intro T hT X
  rcases hr T hT X with ⟨v, st₀, t, T', L, h0, X', hL, e1, e2, ⟨⟨r, u, hv, hp, hb⟩, hF⟩, st⟩ | ⟨q, st₀, t, T', L, E, ce, h0, X', hL, e1, e2, ⟨u, hp, hb, hF⟩, hce, hcv, hcl, st⟩
  · cases hv
    obtain ⟨k1, k2, k3⟩ := vx_keep h0 e1 hS hA hf hL hF
    obtain ⟨t2, a1, b1⟩ := kk r u t T'.heap (locs ++ L) e1.symm (by rw [← e2]; exact X'.warmed.alike) hp hb k1 k2 k3 T' rfl X'
    exact ⟨t2, st t2 a1, b1⟩
  · obtain ⟨k1, k2, k3⟩ := vx_keep h0 e1 hS hAX hf hL hF
    obtain ⟨t2, a1, b1⟩ := kx E ce q u t T'.heap (locs ++ L) e1.symm (by rw [← e2]; exact X'.warmed.alike) hp hb k1 k2 k3 (by rw [e1]; exact hce) hcv hcl T' rfl X'
    exact ⟨t2, st.trans a1, b1⟩
theorem vx_callFf {S SX : Type} {post : UInt32 → S → Prop} {px : SX → Prop} {B : S → State → Prop} {BX : String → SX → State → Prop} {AX : Nat → Prop} (hr : vx_Run5 p l e R s m args below meth c H locs cells slots mc ms (F0 m pc ls st0) rest (va_Qf post B A1 a) (vx_X px BX AX) free) (hS : va_S A0 H0 H locs) (hA : ∀ q, q < H.size → A1 q → A0 q) (hf : ∀ q, free q → A0 q) (hAX : ∀ q, q < H.size → AX q → A0 q)
    (kx : ∀ (E : String) (ce : Cell) (q9 : Addr) (u : SX) (t : State) (H1 : Heap) (locs1 : List Loc), t.heap = H1 → s.vm.Alike t.vm → px u → BX E u t → H.size ≤ H1.size → (∀ q : Nat, q < H.size → ¬ AX q → H1[q]? = H[q]?) → va_S A0 H0 H1 locs1 → H1[q9]? = some ce → ce.vm = .none → s.vm.findClass E = some ce.cls → vx_W p l e R s m args below meth c H1 locs1 (cells + mc) (slots + ms) Q (F0 m pc ls rest) q9)
    (kk : ∀ (r : UInt32) (u : S) (t : State) (H1 : Heap) (locs1 : List Loc), t.heap = H1 → s.vm.Alike t.vm → post r u → B u t → H.size ≤ H1.size → (∀ q : Nat, q < H.size → ¬ A1 q → H1[q]? = H[q]?) → va_S A0 H0 H1 locs1 → W p l e R s m args below meth c H1 locs1 (cells + mc) (slots + ms) Q (F0 m (pc + 5) ls (.float r :: rest))) : W p l e R s m args below meth c H locs cells slots Q (F0 m pc ls st0) := by
  intro T hT X
  rcases hr T hT X with ⟨v, st₀, t, T', L, h0, X', hL, e1, e2, ⟨⟨r, u, hv, hp, hb⟩, hF⟩, st⟩ | ⟨q, st₀, t, T', L, E, ce, h0, X', hL, e1, e2, ⟨u, hp, hb, hF⟩, hce, hcv, hcl, st⟩
  · cases hv
    obtain ⟨k1, k2, k3⟩ := vx_keep h0 e1 hS hA hf hL hF
    obtain ⟨t2, a1, b1⟩ := kk r u t T'.heap (locs ++ L) e1.symm (by rw [← e2]; exact X'.warmed.alike) hp hb k1 k2 k3 T' rfl X'
    exact ⟨t2, st t2 a1, b1⟩
  · obtain ⟨k1, k2, k3⟩ := vx_keep h0 e1 hS hAX hf hL hF
    obtain ⟨t2, a1, b1⟩ := kx E ce q u t T'.heap (locs ++ L) e1.symm (by rw [← e2]; exact X'.warmed.alike) hp hb k1 k2 k3 (by rw [e1]; exact hce) hcv hcl T' rfl X'
    exact ⟨t2, st.trans a1, b1⟩
theorem vx_callFd {S SX : Type} {post : UInt64 → S → Prop} {px : SX → Prop} {B : S → State → Prop} {BX : String → SX → State → Prop} {AX : Nat → Prop} (hr : vx_Run5 p l e R s m args below meth c H locs cells slots mc ms (F0 m pc ls st0) rest (va_Qd post B A1 a) (vx_X px BX AX) free) (hS : va_S A0 H0 H locs) (hA : ∀ q, q < H.size → A1 q → A0 q) (hf : ∀ q, free q → A0 q) (hAX : ∀ q, q < H.size → AX q → A0 q)
    (kx : ∀ (E : String) (ce : Cell) (q9 : Addr) (u : SX) (t : State) (H1 : Heap) (locs1 : List Loc), t.heap = H1 → s.vm.Alike t.vm → px u → BX E u t → H.size ≤ H1.size → (∀ q : Nat, q < H.size → ¬ AX q → H1[q]? = H[q]?) → va_S A0 H0 H1 locs1 → H1[q9]? = some ce → ce.vm = .none → s.vm.findClass E = some ce.cls → vx_W p l e R s m args below meth c H1 locs1 (cells + mc) (slots + ms) Q (F0 m pc ls rest) q9)
    (kk : ∀ (r : UInt64) (u : S) (t : State) (H1 : Heap) (locs1 : List Loc), t.heap = H1 → s.vm.Alike t.vm → post r u → B u t → H.size ≤ H1.size → (∀ q : Nat, q < H.size → ¬ A1 q → H1[q]? = H[q]?) → va_S A0 H0 H1 locs1 → W p l e R s m args below meth c H1 locs1 (cells + mc) (slots + ms) Q (F0 m (pc + 5) ls (.double r :: rest))) : W p l e R s m args below meth c H locs cells slots Q (F0 m pc ls st0) := by
  intro T hT X
  rcases hr T hT X with ⟨v, st₀, t, T', L, h0, X', hL, e1, e2, ⟨⟨r, u, hv, hp, hb⟩, hF⟩, st⟩ | ⟨q, st₀, t, T', L, E, ce, h0, X', hL, e1, e2, ⟨u, hp, hb, hF⟩, hce, hcv, hcl, st⟩
  · cases hv
    obtain ⟨k1, k2, k3⟩ := vx_keep h0 e1 hS hA hf hL hF
    obtain ⟨t2, a1, b1⟩ := kk r u t T'.heap (locs ++ L) e1.symm (by rw [← e2]; exact X'.warmed.alike) hp hb k1 k2 k3 T' rfl X'
    exact ⟨t2, st t2 a1, b1⟩
  · obtain ⟨k1, k2, k3⟩ := vx_keep h0 e1 hS hAX hf hL hF
    obtain ⟨t2, a1, b1⟩ := kx E ce q u t T'.heap (locs ++ L) e1.symm (by rw [← e2]; exact X'.warmed.alike) hp hb k1 k2 k3 (by rw [e1]; exact hce) hcv hcl T' rfl X'
    exact ⟨t2, st.trans a1, b1⟩
end
/-! ===== END ===== -/
/-! ===== BEGIN by an interface, a method with a table of its own that may throw (follows va_callIFW, va_runFW) ===== -/
section
variable {p : Program} {l : Launch} {e : Env} {R : Room} {s : State} {m : MethodId} {args : Array Value} {below : List Frame} {meth : Method} {c : Code} {H : Heap} {locs : List Loc} {cells slots : Nat}
theorem vx_callIFW {T : State} (X : Stand p l e R s m args below meth c T locs cells slots) (hexec : p.tables.exec = Jvm.exec) {own C : String} {index count : Nat} {x y : MethodName} {bytes : ByteArray} {maxL : Nat} {ret : Option FieldType} {hh : List (Nat × Nat × Nat × Nat)}
    (hown : s.vm.findClass own = some m.cls) (hlink : (Cond.methodLink own index x).before args s = true) (hdecl : (Cond.declares x).before args s = true) (hface : (Cond.interfaceMethod x.cls x.cls x.name x.desc).before args s = true)
    (hsel : (Cond.selects C x y).before args s = true) (hinst : (Cond.instanceMethod y).before args s = true) (hpub : (Cond.publicMethod y).before args s = true) (hunh : (Cond.unhidden C x.name x.desc).before args s = true)
    (hcast : (Cond.castable C x.cls).before args s = true) (hcode : (Cond.codeWith y bytes maxL ret hh).before args s = true) (hx : x.cls ≠ "java/lang/invoke/MethodHandle" ∧ x.cls ≠ "java/lang/invoke/VarHandle")
    {W : Nat} {Pre : Pt → Array Value → Prop} {Post : Pt → Array Value → Option Value → Pt → Prop} {PostX : Pt → Array Value → Addr → Pt → Prop} (hK : vx_Back l R p e below s args y 5 W Pre Post PostX)
    {b : Addr} {cellB : Cell} {kB : Class} (hcell : T.heap[b]? = some cellB) (hobj : cellB.vm.isStatics = false) (hcls : s.vm.findClass C = some cellB.cls) (hkB : s.vm.classes[cellB.cls]? = some kB)
    {g : JFrame} (hg : g.method = m) (hsize : g.locals.size = c.maxLocals) {argsL rest : List Value} (hlen : ∀ sig, parseMethodDescriptor x.desc = some sig → argsL.length = sig.parameters.length)
    (hstack : g.stack = argsL.reverse ++ .ref b :: rest) (hW : 2 * g.monitorRoom + (rest.map fun v => v.category).sum ≤ W) (hdg : decode c.code g.pc = .ok (.invokeinterface index count, 5))
    (hpre : ∀ vm₁, s.WarmedH vm₁ → Pre ⟨T.setVm vm₁, locs, cells, slots⟩ (Value.ref b :: argsL).toArray) :
    (∃ (v : Option Value) (vm₁ : Vm) (B : Pt), s.WarmedH vm₁ ∧ Stand p l e R s m args below meth c B.U B.locs B.cells B.slots ∧ Post ⟨T.setVm vm₁, locs, cells, slots⟩ (Value.ref b :: argsL).toArray v B ∧
      ∀ target, Steps p.tables e below (B.U.setTop { g with pc := g.pc + 5, stack := v.toList ++ rest }) target → Steps p.tables e below (T.setTop g) target) ∨
    (∃ (q : Addr) (vm₁ : Vm) (B : Pt), s.WarmedH vm₁ ∧ Stand p l e R s m args below meth c B.U B.locs B.cells B.slots ∧ PostX ⟨T.setVm vm₁, locs, cells, slots⟩ (Value.ref b :: argsL).toArray q B ∧
      Steps p.tables e below (T.setTop g) ((B.U.setTop { g with stack := rest }).pushFrame (.throwing q))) := by
  obtain ⟨r0, r, hn, hrm, hstR, hsigR⟩ := Cond.declares_spec hdecl
  obtain ⟨cL, kL, r1, hcL, hkL, hiL, hfoundL, hn1⟩ := Cond.interfaceMethod_spec hface
  cases hn.symm.trans hn1
  have hr0cls : r0.cls = cL := Option.some.inj ((findClass_of_methodNamed hn).symm.trans hcL)
  obtain ⟨hnameR, hdescR⟩ := name_of_methodNamed hn hrm
  obtain ⟨mk, methM, hnamed, hmethM, -, habM⟩ := Cond.instanceMethod_spec hinst
  obtain ⟨c2, r2, m2, q1, q2, q3, q4, -⟩ := Cond.selects_spec hsel
  cases hcls.symm.trans q1
  cases hfoundL.symm.trans q2
  cases hnamed.symm.trans q3
  have hselP : selectMethod e.platform s.vm cellB.cls r0 = .method mk := by rw [Launch.admits_selectMethod X.admits]; exact q4
  have hpubM : hasFlag methM.accessFlags Acc.public_ = true := Cond.publicMethod_spec hnamed hmethM hpub
  have hway : ((cellB.cls :: s.vm.superclasses cellB.cls).any fun k => (declaredIn s.vm r.name r.desc k).any fun (_, z) => z.isPrivate || z.isStatic) = false := by
    rw [hnameR, hdescR]; exact Cond.unhidden_spec hcls hunh
  obtain ⟨c3, t3, w1, w2, w3⟩ := Cond.castable_spec hcast
  cases hcls.symm.trans w1
  cases hcL.symm.trans w2
  obtain ⟨vm₁, X₁, hstep₁⟩ := X.invokeinterface hexec hown hlink hn hrm hstR (by rw [hr0cls]; exact hkL) hiL hx (a := b) (cell := cellB) (kcell := kB) hcell
    (fun z h => by rw [h] at hobj; cases hobj) hkB (by rw [hr0cls]; exact w3) hselP hmethM hway hpubM habM (g := g) hg (argsL := argsL) (rest := rest) (hlen _ hsigR) hstack hdg
  rcases hK m meth c ⟨T.setVm vm₁, locs, cells, slots⟩ { g with stack := rest } (.invokeinterface index count) mk (Value.ref b :: argsL).toArray X₁ hg hsize hdg hW (X₁.named hnamed) (hpre vm₁ X₁.warmed) with ⟨v, B, X', hpost, hsteps⟩ | ⟨q, B, X', hpost, hsteps⟩
  · exact Or.inl ⟨v, vm₁, B, X₁.warmed, X', hpost, fun target h => hstep₁ _ fun acts => by rw [doInvoke_state]; exact hsteps.trans h⟩
  · exact Or.inr ⟨q, vm₁, B, X₁.warmed, X', hpost, hstep₁ _ fun acts => by rw [doInvoke_state]; exact hsteps⟩
theorem vx_runFW {x y : MethodName} {bytes cc : ByteArray} {maxL nL mc ms n index count : Nat} {ret : Option FieldType} {hh : List (Nat × Nat × Nat × Nat)} {ws : List Cond} {rm : Room} {Pc : Array Value → State → Prop} {Qc : Array Value → State → Outcome → State → Prop} {XC : String → State → State → Prop} {free : Addr → Prop} {Ts : List Cond} {own C : String} {cC : ClassId} {b : Addr} {As rest : List Value} {g : JFrame}
    (hat : ClassAt s C cC) (S : CallFix p m c cc nL s args Ts own) (hM : vx_Met l y ws rm Pc Qc XC mc ms free) (cw : va_CIW R s args own C index x y bytes maxL ret hh ws rm mc ms n) (hp : PreV s H C b Pc As)
    (hg : g.method = m) (hn : As.length = n) (hsize : g.locals.size = nL) (hstack : g.stack = As.reverse ++ .ref b :: rest) (hW : 2 * g.monitorRoom + (rest.map fun v => v.category).sum ≤ 8) (hdg : decode cc g.pc = .ok (.invokeinterface index count, 5)) (hf : cells + mc ≤ R.cells ∧ slots + ms ≤ R.slots) :
    vx_Run5 p l e R s m args below meth c H locs cells slots mc ms g rest (Qc (Value.ref b :: As).toArray) XC free := by
  obtain ⟨hrc, hrs, hfr, hlo, hws, hcw⟩ := cw.back
  have hini := cw.init
  have hK : vx_Back l R p e below s args y 5 8 (PreOf R mc ms Pc) (PostOf Qc mc ms free) (vx_Post XC mc ms free) := vx_backW (hh := hh) (bytes := bytes) (maxL := maxL) (ret := ret) hM hp.1 hrc hrs hfr hlo hws hcw (fun a' U hW => word_at hW (Or.inl (by first | rfl | simp [Cond.onTables, Cond.keeps, Cond.steady])) hini)
  obtain ⟨hx, hb, hml, ho, -⟩ := S
  obtain ⟨-, ⟨cellB, hcB, hoB, hclB⟩, hPc⟩ := hp
  obtain ⟨hfc, kB, hkB, -⟩ := hat
  cases hfc.symm.trans hclB
  intro T hT X
  rcases vx_callIFW X hx (C := C) (hh := hh) (bytes := bytes) (maxL := maxL) (ret := ret) ho cw.link cw.decl cw.face cw.sel cw.inst cw.pub cw.unh cw.cast cw.code cw.notMH hK (by rw [hT]; exact hcB) hoB hclB hkB hg (hsize.trans hml.symm) (argsL := As) (rest := rest) (fun sig h => hn.trans (cw.len sig h)) hstack hW (by rw [hb]; exact hdg)
    (fun vm₁ hW₁ => ⟨hf.1, hf.2, hPc (T.setVm vm₁) hT hW₁⟩) with ⟨v, vm₁, ⟨U', l2, c2, s2⟩, hW₁, X', ⟨g', mk, t, L, e1, e2, hq, h1, hL, h2, h3⟩, st⟩ | ⟨q, vm₁, ⟨U', l2, c2, s2⟩, hW₁, X', ⟨g', mk, t, L, E, ce, e1, e2, hq, hce, hcv, hcl, h1, hL, h2, h3⟩, st⟩
  · dsimp only [Pt.U, Pt.locs, Pt.cells, Pt.slots] at X' e1 e2 h1 h2 h3 st
    subst h1; subst h2; subst h3
    exact Or.inl ⟨v, (T.setVm vm₁).calling g' mk (Value.ref b :: As).toArray, t, U', L, hT, X', hL, e1, e2, hq, st⟩
  · dsimp only [Pt.U, Pt.locs, Pt.cells, Pt.slots] at X' e1 e2 h1 h2 h3 st hcl
    subst h1; subst h2; subst h3
    exact Or.inr ⟨q, (T.setVm vm₁).calling g' mk (Value.ref b :: As).toArray, t, U', L, E, ce, hT, X', hL, e1, e2, hq, hce, hcv, vx_cls hW₁ hcl, st⟩
end
/-! ===== END ===== -/
/-! ===== BEGIN .. of methods that hand back an object of the pool ===== -/
section
variable {p : Program} {l : Launch} {e : Env} {R : Room} {s : State} {m : MethodId} {args : Array Value} {below : List Frame} {meth : Method} {c : Code} {H : Heap} {locs : List Loc} {cells slots : Nat} {Q : State → Prop}
variable {mc ms : Nat} {free : Addr → Prop} {A0 A1 : Nat → Prop} {H0 : Heap} {a : Array Value} {pc : Nat} {ls : Array Slot} {st0 rest : List Value}
theorem vx_callq {S SX : Type} {post : Option Nat → S → Prop} {px : SX → Prop} {B : S → State → Prop} {BX : String → SX → State → Prop} {AX : Nat → Prop} (hr : vx_Run p l e R s m args below meth c H locs cells slots mc ms (F0 m pc ls st0) rest (va_Qq post B A1 a) (vx_X px BX AX) free) (hS : va_S A0 H0 H locs) (hA : ∀ q, q < H.size → A1 q → A0 q) (hf : ∀ q, free q → A0 q) (hAX : ∀ q, q < H.size → AX q → A0 q)
    (kx : ∀ (E : String) (ce : Cell) (q9 : Addr) (u : SX) (t : State) (H1 : Heap) (locs1 : List Loc), t.heap = H1 → s.vm.Alike t.vm → px u → BX E u t → H.size ≤ H1.size → (∀ q : Nat, q < H.size → ¬ AX q → H1[q]? = H[q]?) → va_S A0 H0 H1 locs1 → H1[q9]? = some ce → ce.vm = .none → s.vm.findClass E = some ce.cls → vx_W p l e R s m args below meth c H1 locs1 (cells + mc) (slots + ms) Q (F0 m pc ls rest) q9)
    (kk : ∀ (r : Option Nat) (u : S) (t : State) (H1 : Heap) (locs1 : List Loc), t.heap = H1 → s.vm.Alike t.vm → post r u → B u t → H.size ≤ H1.size → (∀ q : Nat, q < H.size → ¬ A1 q → H1[q]? = H[q]?) → va_S A0 H0 H1 locs1 → W p l e R s m args below meth c H1 locs1 (cells + mc) (slots + ms) Q (F0 m (pc + 3) ls (va_rf r :: rest))) : W p l e R s m args below meth c H locs cells slots Q (F0 m pc ls st0) := by
  intro T hT X
  rcases hr T hT X with ⟨v, st₀, t, T', L, h0, X', hL, e1, e2, ⟨⟨r, u, hv, hp, hb⟩, hF⟩, st⟩ | ⟨q, st₀, t, T', L, E, ce, h0, X', hL, e1, e2, ⟨u, hp, hb, hF⟩, hce, hcv, hcl, st⟩
  · cases hv
    obtain ⟨k1, k2, k3⟩ := vx_keep h0 e1 hS hA hf hL hF
    obtain ⟨t2, a1, b1⟩ := kk r u t T'.heap (locs ++ L) e1.symm (by rw [← e2]; exact X'.warmed.alike) hp hb k1 k2 k3 T' rfl X'
    exact ⟨t2, st t2 a1, b1⟩
  · obtain ⟨k1, k2, k3⟩ := vx_keep h0 e1 hS hAX hf hL hF
    obtain ⟨t2, a1, b1⟩ := kx E ce q u t T'.heap (locs ++ L) e1.symm (by rw [← e2]; exact X'.warmed.alike) hp hb k1 k2 k3 (by rw [e1]; exact hce) hcv hcl T' rfl X'
    exact ⟨t2, st.trans a1, b1⟩
end
/-! ===== END ===== -/
/-! ===== BEGIN .. a constant ===== -/
section
variable {p : Program} {l : Launch} {e : Env} {R : Room} {s : State} {m : MethodId} {args : Array Value} {below : List Frame} {meth : Method} {c : Code} {H : Heap} {locs : List Loc} {cells slots : Nat} {Q : State → Prop}
variable {mc ms : Nat} {free : Addr → Prop} {A0 A1 : Nat → Prop} {H0 : Heap} {a : Array Value} {pc : Nat} {ls : Array Slot} {st0 rest : List Value}
theorem vx_calle {ad : Nat → Nat} {S SX : Type} {post : Option Nat → S → Prop} {px : SX → Prop} {B : S → State → Prop} {BX : String → SX → State → Prop} {AX : Nat → Prop} (hr : vx_Run p l e R s m args below meth c H locs cells slots mc ms (F0 m pc ls st0) rest (va_Qe ad post B A1 a) (vx_X px BX AX) free) (hS : va_S A0 H0 H locs) (hA : ∀ q, q < H.size → A1 q → A0 q) (hf : ∀ q, free q → A0 q) (hAX : ∀ q, q < H.size → AX q → A0 q)
    (kx : ∀ (E : String) (ce : Cell) (q9 : Addr) (u : SX) (t : State) (H1 : Heap) (locs1 : List Loc), t.heap = H1 → s.vm.Alike t.vm → px u → BX E u t → H.size ≤ H1.size → (∀ q : Nat, q < H.size → ¬ AX q → H1[q]? = H[q]?) → va_S A0 H0 H1 locs1 → H1[q9]? = some ce → ce.vm = .none → s.vm.findClass E = some ce.cls → vx_W p l e R s m args below meth c H1 locs1 (cells + mc) (slots + ms) Q (F0 m pc ls rest) q9)
    (kk : ∀ (r : Option Nat) (u : S) (t : State) (H1 : Heap) (locs1 : List Loc), t.heap = H1 → s.vm.Alike t.vm → post r u → B u t → H.size ≤ H1.size → (∀ q : Nat, q < H.size → ¬ A1 q → H1[q]? = H[q]?) → va_S A0 H0 H1 locs1 → W p l e R s m args below meth c H1 locs1 (cells + mc) (slots + ms) Q (F0 m (pc + 3) ls (va_re ad r :: rest))) : W p l e R s m args below meth c H locs cells slots Q (F0 m pc ls st0) := by
  intro T hT X
  rcases hr T hT X with ⟨v, st₀, t, T', L, h0, X', hL, e1, e2, ⟨⟨r, u, hv, hp, hb⟩, hF⟩, st⟩ | ⟨q, st₀, t, T', L, E, ce, h0, X', hL, e1, e2, ⟨u, hp, hb, hF⟩, hce, hcv, hcl, st⟩
  · cases hv
    obtain ⟨k1, k2, k3⟩ := vx_keep h0 e1 hS hA hf hL hF
    obtain ⟨t2, a1, b1⟩ := kk r u t T'.heap (locs ++ L) e1.symm (by rw [← e2]; exact X'.warmed.alike) hp hb k1 k2 k3 T' rfl X'
    exact ⟨t2, st t2 a1, b1⟩
  · obtain ⟨k1, k2, k3⟩ := vx_keep h0 e1 hS hAX hf hL hF
    obtain ⟨t2, a1, b1⟩ := kx E ce q u t T'.heap (locs ++ L) e1.symm (by rw [← e2]; exact X'.warmed.alike) hp hb k1 k2 k3 (by rw [e1]; exact hce) hcv hcl T' rfl X'
    exact ⟨t2, st.trans a1, b1⟩
end
/-! ===== END ===== -/
/-! ===== BEGIN .. by an interface, an object ===== -/
section
variable {p : Program} {l : Launch} {e : Env} {R : Room} {s : State} {m : MethodId} {args : Array Value} {below : List Frame} {meth : Method} {c : Code} {H : Heap} {locs : List Loc} {cells slots : Nat} {Q : State → Prop}
variable {mc ms : Nat} {free : Addr → Prop} {A0 A1 : Nat → Prop} {H0 : Heap} {a : Array Value} {pc : Nat} {ls : Array Slot} {st0 rest : List Value}
theorem vx_callFq {S SX : Type} {post : Option Nat → S → Prop} {px : SX → Prop} {B : S → State → Prop} {BX : String → SX → State → Prop} {AX : Nat → Prop} (hr : vx_Run5 p l e R s m args below meth c H locs cells slots mc ms (F0 m pc ls st0) rest (va_Qq post B A1 a) (vx_X px BX AX) free) (hS : va_S A0 H0 H locs) (hA : ∀ q, q < H.size → A1 q → A0 q) (hf : ∀ q, free q → A0 q) (hAX : ∀ q, q < H.size → AX q → A0 q)
    (kx : ∀ (E : String) (ce : Cell) (q9 : Addr) (u : SX) (t : State) (H1 : Heap) (locs1 : List Loc), t.heap = H1 → s.vm.Alike t.vm → px u → BX E u t → H.size ≤ H1.size → (∀ q : Nat, q < H.size → ¬ AX q → H1[q]? = H[q]?) → va_S A0 H0 H1 locs1 → H1[q9]? = some ce → ce.vm = .none → s.vm.findClass E = some ce.cls → vx_W p l e R s m args below meth c H1 locs1 (cells + mc) (slots + ms) Q (F0 m pc ls rest) q9)
    (kk : ∀ (r : Option Nat) (u : S) (t : State) (H1 : Heap) (locs1 : List Loc), t.heap = H1 → s.vm.Alike t.vm → post r u → B u t → H.size ≤ H1.size → (∀ q : Nat, q < H.size → ¬ A1 q → H1[q]? = H[q]?) → va_S A0 H0 H1 locs1 → W p l e R s m args below meth c H1 locs1 (cells + mc) (slots + ms) Q (F0 m (pc + 5) ls (va_rf r :: rest))) : W p l e R s m args below meth c H locs cells slots Q (F0 m pc ls st0) := by
  intro T hT X
  rcases hr T hT X with ⟨v, st₀, t, T', L, h0, X', hL, e1, e2, ⟨⟨r, u, hv, hp, hb⟩, hF⟩, st⟩ | ⟨q, st₀, t, T', L, E, ce, h0, X', hL, e1, e2, ⟨u, hp, hb, hF⟩, hce, hcv, hcl, st⟩
  · cases hv
    obtain ⟨k1, k2, k3⟩ := vx_keep h0 e1 hS hA hf hL hF
    obtain ⟨t2, a1, b1⟩ := kk r u t T'.heap (locs ++ L) e1.symm (by rw [← e2]; exact X'.warmed.alike) hp hb k1 k2 k3 T' rfl X'
    exact ⟨t2, st t2 a1, b1⟩
  · obtain ⟨k1, k2, k3⟩ := vx_keep h0 e1 hS hAX hf hL hF
    obtain ⟨t2, a1, b1⟩ := kx E ce q u t T'.heap (locs ++ L) e1.symm (by rw [← e2]; exact X'.warmed.alike) hp hb k1 k2 k3 (by rw [e1]; exact hce) hcv hcl T' rfl X'
    exact ⟨t2, st.trans a1, b1⟩
end
/-! ===== END ===== -/
/-! ===== BEGIN .. by an interface, a constant ===== -/
section
variable {p : Program} {l : Launch} {e : Env} {R : Room} {s : State} {m : MethodId} {args : Array Value} {below : List Frame} {meth : Method} {c : Code} {H : Heap} {locs : List Loc} {cells slots : Nat} {Q : State → Prop}
variable {mc ms : Nat} {free : Addr → Prop} {A0 A1 : Nat → Prop} {H0 : Heap} {a : Array Value} {pc : Nat} {ls : Array Slot} {st0 rest : List Value}
theorem vx_callFe {ad : Nat → Nat} {S SX : Type} {post : Option Nat → S → Prop} {px : SX → Prop} {B : S → State → Prop} {BX : String → SX → State → Prop} {AX : Nat → Prop} (hr : vx_Run5 p l e R s m args below meth c H locs cells slots mc ms (F0 m pc ls st0) rest (va_Qe ad post B A1 a) (vx_X px BX AX) free) (hS : va_S A0 H0 H locs) (hA : ∀ q, q < H.size → A1 q → A0 q) (hf : ∀ q, free q → A0 q) (hAX : ∀ q, q < H.size → AX q → A0 q)
    (kx : ∀ (E : String) (ce : Cell) (q9 : Addr) (u : SX) (t : State) (H1 : Heap) (locs1 : List Loc), t.heap = H1 → s.vm.Alike t.vm → px u → BX E u t → H.size ≤ H1.size → (∀ q : Nat, q < H.size → ¬ AX q → H1[q]? = H[q]?) → va_S A0 H0 H1 locs1 → H1[q9]? = some ce → ce.vm = .none → s.vm.findClass E = some ce.cls → vx_W p l e R s m args below meth c H1 locs1 (cells + mc) (slots + ms) Q (F0 m pc ls rest) q9)
    (kk : ∀ (r : Option Nat) (u : S) (t : State) (H1 : Heap) (locs1 : List Loc), t.heap = H1 → s.vm.Alike t.vm → post r u → B u t → H.size ≤ H1.size → (∀ q : Nat, q < H.size → ¬ A1 q → H1[q]? = H[q]?) → va_S A0 H0 H1 locs1 → W p l e R s m args below meth c H1 locs1 (cells + mc) (slots + ms) Q (F0 m (pc + 5) ls (va_re ad r :: rest))) : W p l e R s m args below meth c H locs cells slots Q (F0 m pc ls st0) := by
  intro T hT X
  rcases hr T hT X with ⟨v, st₀, t, T', L, h0, X', hL, e1, e2, ⟨⟨r, u, hv, hp, hb⟩, hF⟩, st⟩ | ⟨q, st₀, t, T', L, E, ce, h0, X', hL, e1, e2, ⟨u, hp, hb, hF⟩, hce, hcv, hcl, st⟩
  · cases hv
    obtain ⟨k1, k2, k3⟩ := vx_keep h0 e1 hS hA hf hL hF
    obtain ⟨t2, a1, b1⟩ := kk r u t T'.heap (locs ++ L) e1.symm (by rw [← e2]; exact X'.warmed.alike) hp hb k1 k2 k3 T' rfl X'
    exact ⟨t2, st t2 a1, b1⟩
  · obtain ⟨k1, k2, k3⟩ := vx_keep h0 e1 hS hAX hf hL hF
    obtain ⟨t2, a1, b1⟩ := kx E ce q u t T'.heap (locs ++ L) e1.symm (by rw [← e2]; exact X'.warmed.alike) hp hb k1 k2 k3 (by rw [e1]; exact hce) hcv hcl T' rfl X'
    exact ⟨t2, st.trans a1, b1⟩
end
/-! ===== END ===== -/
/-! ===== BEGIN what the machine throws by itself: null at a field, at athrow ===== -/
section VXM2
variable {p : Program} {l : Launch} {e : Env} {R : Room} {s : State} {m : MethodId} {args : Array Value} {below : List Frame} {meth : Method} {c : Code} {H : Heap} {locs : List Loc} {cells slots : Nat}
variable {Q : State → Prop} {cc : ByteArray} {pc : Nat} {ls : Array Slot} {rest : List Value}
theorem vx_getfN {D cl tys} {own ref C : String} {T : u_T} {N ci index : Nat} {Ts : List Cond} (hexec : p.tables.exec = Jvm.exec) (hb : c.code = cc) (hts : ∀ w ∈ Ts, w.before args s = true) (hin : ∀ w ∈ u_ws C T N, w ∈ Ts) (hown : s.vm.findClass own = some m.cls) (hK : va_K D cl tys s) (hc : cl[ci]? = some (C, T, N)) (k : Nat) (hk : k < N) (hlink : (Cond.fieldLink own index ref (T k).2.1 (T k).2.2.1).before args s = true) (hsame : ∀ x, s.fieldFound? (T k).1 (T k).2.1 (T k).2.2.1 = some x → s.fieldFound? ref (T k).2.1 (T k).2.2.1 = some x) (hdg : decode cc pc = .ok (.getfield index, 3)) (kk : vx_NoteN p l e R s m args below meth c H locs cells slots Q (F0 m pc ls rest)) : W p l e R s m args below meth c H locs cells slots Q (F0 m pc ls (.null :: rest)) := by
  obtain ⟨hS, hfc, kC, hkC, -⟩ := hK.1 ci _ hc
  obtain ⟨cf, kf, fi, f, hi, -⟩ := hS k hk
  intro U hU X
  obtain ⟨vm', X1, st1⟩ := X.getfieldNull hexec hown hlink (hsame _ hi) (u_facts hfc hkC (u_lays hts hin hk) hi).1 (g := F0 m pc ls (.null :: rest)) rfl (rest := rest) rfl (by rw [hb]; exact hdg)
  obtain ⟨t, st, q⟩ := kk (U.setVm vm') hU X1
  exact ⟨t, st1 t st, q⟩
theorem vx_getfNN {D cl tys} {own ref C host : String} {T : u_T} {N ci index : Nat} {Ts : List Cond} (hexec : p.tables.exec = Jvm.exec) (hb : c.code = cc) (hts : ∀ w ∈ Ts, w.before args s = true) (hin : ∀ w ∈ u_ws C T N, w ∈ Ts) (hown : s.vm.findClass own = some m.cls) (hK : va_K D cl tys s) (hc : cl[ci]? = some (C, T, N)) (k : Nat) (hk : k < N) (hlink : (Cond.fieldLinkNest own index ref (T k).2.1 (T k).2.2.1 host).before args s = true) (hsame : ∀ x, s.fieldFound? (T k).1 (T k).2.1 (T k).2.2.1 = some x → s.fieldFound? ref (T k).2.1 (T k).2.2.1 = some x) (hdg : decode cc pc = .ok (.getfield index, 3)) (kk : vx_NoteN p l e R s m args below meth c H locs cells slots Q (F0 m pc ls rest)) : W p l e R s m args below meth c H locs cells slots Q (F0 m pc ls (.null :: rest)) := by
  obtain ⟨hS, hfc, kC, hkC, -⟩ := hK.1 ci _ hc
  obtain ⟨cf, kf, fi, f, hi, -⟩ := hS k hk
  intro U hU X
  obtain ⟨vm', X1, st1⟩ := X.getfieldNullNest hexec hown hlink (hsame _ hi) (u_facts hfc hkC (u_lays hts hin hk) hi).1 (g := F0 m pc ls (.null :: rest)) rfl (rest := rest) rfl (by rw [hb]; exact hdg)
  obtain ⟨t, st, q⟩ := kk (U.setVm vm') hU X1
  exact ⟨t, st1 t st, q⟩
theorem vx_putfN {D cl tys} {own ref C : String} {T : u_T} {N ci index : Nat} {Ts : List Cond} (hexec : p.tables.exec = Jvm.exec) (hb : c.code = cc) (hts : ∀ w ∈ Ts, w.before args s = true) (hin : ∀ w ∈ u_ws C T N, w ∈ Ts) (hown : s.vm.findClass own = some m.cls) (hK : va_K D cl tys s) (hc : cl[ci]? = some (C, T, N)) (k : Nat) (hk : k < N) (hlink : (Cond.fieldLink own index ref (T k).2.1 (T k).2.2.1).before args s = true) (hsame : ∀ x, s.fieldFound? (T k).1 (T k).2.1 (T k).2.2.1 = some x → s.fieldFound? ref (T k).2.1 (T k).2.2.1 = some x) (hfin : (T k).2.2.2 = false) {v : Value} (hdg : decode cc pc = .ok (.putfield index, 3)) (kk : vx_NoteN p l e R s m args below meth c H locs cells slots Q (F0 m pc ls rest)) : W p l e R s m args below meth c H locs cells slots Q (F0 m pc ls (v :: .null :: rest)) := by
  obtain ⟨hS, hfc, kC, hkC, -⟩ := hK.1 ci _ hc
  obtain ⟨cf, kf, fi, f, hi, -⟩ := hS k hk
  have hlay := hts _ (hin _ (u_in_lay hk))
  unfold u_lay at hlay
  rw [if_neg (by rw [hfin]; decide)] at hlay
  obtain ⟨c9, k9, cf9, kf9, fi9, f9, -, -, hi9, hst9, hnf9, -⟩ := Cond.lays_spec hlay
  cases hi.symm.trans hi9
  intro U hU X
  obtain ⟨vm', X1, st1⟩ := X.putfieldNull hexec hown hlink (hsame _ hi) hst9 hnf9 (g := F0 m pc ls (v :: .null :: rest)) rfl (v := v) (rest := rest) rfl (by rw [hb]; exact hdg)
  obtain ⟨t, st, q⟩ := kk (U.setVm vm') hU X1
  exact ⟨t, st1 t st, q⟩
theorem vx_putfNN {D cl tys} {own ref C host : String} {T : u_T} {N ci index : Nat} {Ts : List Cond} (hexec : p.tables.exec = Jvm.exec) (hb : c.code = cc) (hts : ∀ w ∈ Ts, w.before args s = true) (hin : ∀ w ∈ u_ws C T N, w ∈ Ts) (hown : s.vm.findClass own = some m.cls) (hK : va_K D cl tys s) (hc : cl[ci]? = some (C, T, N)) (k : Nat) (hk : k < N) (hlink : (Cond.fieldLinkNest own index ref (T k).2.1 (T k).2.2.1 host).before args s = true) (hsame : ∀ x, s.fieldFound? (T k).1 (T k).2.1 (T k).2.2.1 = some x → s.fieldFound? ref (T k).2.1 (T k).2.2.1 = some x) (hfin : (T k).2.2.2 = false) {v : Value} (hdg : decode cc pc = .ok (.putfield index, 3)) (kk : vx_NoteN p l e R s m args below meth c H locs cells slots Q (F0 m pc ls rest)) : W p l e R s m args below meth c H locs cells slots Q (F0 m pc ls (v :: .null :: rest)) := by
  obtain ⟨hS, hfc, kC, hkC, -⟩ := hK.1 ci _ hc
  obtain ⟨cf, kf, fi, f, hi, -⟩ := hS k hk
  have hlay := hts _ (hin _ (u_in_lay hk))
  unfold u_lay at hlay
  rw [if_neg (by rw [hfin]; decide)] at hlay
  obtain ⟨c9, k9, cf9, kf9, fi9, f9, -, -, hi9, hst9, hnf9, -⟩ := Cond.lays_spec hlay
  cases hi.symm.trans hi9
  intro U hU X
  obtain ⟨vm', X1, st1⟩ := X.putfieldNullNest hexec hown hlink (hsame _ hi) hst9 hnf9 (g := F0 m pc ls (v :: .null :: rest)) rfl (v := v) (rest := rest) rfl (by rw [hb]; exact hdg)
  obtain ⟨t, st, q⟩ := kk (U.setVm vm') hU X1
  exact ⟨t, st1 t st, q⟩
theorem vx_athrowN (hexec : p.tables.exec = Jvm.exec) (hb : c.code = cc) (hdg : decode cc pc = .ok (.athrow, 1)) (k : vx_NoteN p l e R s m args below meth c H locs cells slots Q (F0 m pc ls rest)) : W p l e R s m args below meth c H locs cells slots Q (F0 m pc ls (.null :: rest)) := by
  intro T hT X
  obtain ⟨t, st, q⟩ := k T hT X
  exact ⟨t, X.athrowNull hexec (g := F0 m pc ls (.null :: rest)) rfl (rest := rest) rfl (by rw [hb]; exact hdg) t st, q⟩
end VXM2
/-! ===== END ===== -/
end
section
def RX0 : String := "TallyWax$LineList"
def TX0 : u_T := fun k => match k with
  | 0 => ("TallyWax$LineList", "debtor", "[I", true)
  | 1 => ("TallyWax$LineList", "creditor", "[I", true)
  | 2 => ("TallyWax$LineList", "amount", "[I", true)
  | 3 => ("TallyWax$LineList", "witness", "[I", true)
  | _ => ("TallyWax$LineList", "count", "I", false)
def tyX0 : Nat → FieldType := fun k => match k with
  | 0 => .array .int
  | 1 => .array .int
  | 2 => .array .int
  | 3 => .array .int
  | _ => .int
abbrev wsX00 : List Cond := u_ws RX0 TX0 5
theorem nmX0 : ∀ a, a < 5 → ∀ b, b < 5 → a ≠ b → (TX0 a).2.1 ≠ (TX0 b).2.1 := by decide +kernel
theorem tyX0_ok : ∀ k, k < 5 → parseFieldDescriptor (TX0 k).2.2.1 = some (tyX0 k) := by decide +kernel
abbrev cX0_init : ByteArray := prog_2_method_1_code
def yX0_init : MethodName := ⟨RX0, "<init>", "()V"⟩
abbrev cX0_append : ByteArray := prog_2_method_2_code
def yX0_append : MethodName := ⟨RX0, "append", "(IIII)V"⟩
abbrev cX0_takeOut : ByteArray := prog_2_method_3_code
def yX0_takeOut : MethodName := ⟨RX0, "takeOut", "(I)V"⟩
abbrev cX0_become : ByteArray := prog_2_method_4_code
def yX0_become : MethodName := ⟨RX0, "become", "(LTallyWax$LineList;)V"⟩
abbrev cX0_sum : ByteArray := prog_2_method_5_code
def yX0_sum : MethodName := ⟨RX0, "sum", "()I"⟩
abbrev cX0_balanceOf : ByteArray := prog_2_method_6_code
def yX0_balanceOf : MethodName := ⟨RX0, "balanceOf", "(I)I"⟩
abbrev cX0_owedBetween : ByteArray := prog_2_method_7_code
def yX0_owedBetween : MethodName := ⟨RX0, "owedBetween", "(II)I"⟩
abbrev cX0_sumWitnessedBy : ByteArray := prog_2_method_8_code
def yX0_sumWitnessedBy : MethodName := ⟨RX0, "sumWitnessedBy", "(I)I"⟩
abbrev cX0_creditorBits : ByteArray := prog_2_method_9_code
def yX0_creditorBits : MethodName := ⟨RX0, "creditorBits", "(I)I"⟩
def RX1 : String := "TallyWax$Smoothing"
def TX1 : u_T := fun k => match k with
  | 0 => ("TallyWax$Smoothing", "balance", "[I", true)
  | _ => ("TallyWax$Smoothing", "newLines", "LTallyWax$LineList;", true)
def tyX1 : Nat → FieldType := fun k => match k with
  | 0 => .array .int
  | _ => .object "TallyWax$LineList"
abbrev wsX10 : List Cond := u_ws RX1 TX1 2
theorem nmX1 : ∀ a, a < 2 → ∀ b, b < 2 → a ≠ b → (TX1 a).2.1 ≠ (TX1 b).2.1 := by decide +kernel
theorem tyX1_ok : ∀ k, k < 2 → parseFieldDescriptor (TX1 k).2.2.1 = some (tyX1 k) := by decide +kernel
abbrev cX1_init : ByteArray := prog_3_method_1_code
def yX1_init : MethodName := ⟨RX1, "<init>", "()V"⟩
abbrev cX1_plan : ByteArray := prog_3_method_2_code
def yX1_plan : MethodName := ⟨RX1, "plan", "(LTallyWax$LineList;[Z)Z"⟩
abbrev cX1_planLine : ByteArray := prog_3_method_3_code
def yX1_planLine : MethodName := ⟨RX1, "planLine", "(II[Z)Z"⟩
abbrev cX1_poorest : ByteArray := prog_3_method_4_code
def yX1_poorest : MethodName := ⟨RX1, "poorest", "()I"⟩
abbrev cX1_wealthiest : ByteArray := prog_3_method_5_code
def yX1_wealthiest : MethodName := ⟨RX1, "wealthiest", "()I"⟩
abbrev cX1_witnessFor : ByteArray := prog_3_method_6_code
def yX1_witnessFor : MethodName := ⟨RX1, "witnessFor", "(II[Z)I"⟩
def RX2 : String := "TallyWax$Tablet"
def TX2 : u_T := fun k => match k with
  | 0 => ("TallyWax$Tablet", "hardness", "I", true)
  | 1 => ("TallyWax$Tablet", "inCellar", "Z", false)
  | _ => ("TallyWax$Tablet", "lines", "LTallyWax$LineList;", true)
def tyX2 : Nat → FieldType := fun k => match k with
  | 0 => .int
  | 1 => .boolean
  | _ => .object "TallyWax$LineList"
abbrev wsX20 : List Cond := u_ws RX2 TX2 3
theorem nmX2 : ∀ a, a < 3 → ∀ b, b < 3 → a ≠ b → (TX2 a).2.1 ≠ (TX2 b).2.1 := by decide +kernel
theorem tyX2_ok : ∀ k, k < 3 → parseFieldDescriptor (TX2 k).2.2.1 = some (tyX2 k) := by decide +kernel
abbrev cX2_init : ByteArray := prog_4_method_1_code
def yX2_init : MethodName := ⟨RX2, "<init>", "(I)V"⟩
abbrev cX2_meltsAt : ByteArray := prog_4_method_2_code
def yX2_meltsAt : MethodName := ⟨RX2, "meltsAt", "(I)Z"⟩
def RX3 : String := "TallyWax"
def TX3 : u_T := fun k => match k with
  | 0 => ("TallyWax", "there", "[Z", true)
  | 1 => ("TallyWax", "shelf", "[LTallyWax$Tablet;", true)
  | 2 => ("TallyWax", "heats", "[I", true)
  | 3 => ("TallyWax", "smoothing", "LTallyWax$Smoothing;", true)
  | 4 => ("TallyWax", "reached", "[I", true)
  | 5 => ("TallyWax", "tabletCount", "I", false)
  | 6 => ("TallyWax", "yearNow", "I", false)
  | 7 => ("TallyWax", "meltedLines", "I", false)
  | _ => ("TallyWax", "deniedAmount", "I", false)
def tyX3 : Nat → FieldType := fun k => match k with
  | 0 => .array .boolean
  | 1 => .array (.object "TallyWax$Tablet")
  | 2 => .array .int
  | 3 => .object "TallyWax$Smoothing"
  | 4 => .array .int
  | 5 => .int
  | 6 => .int
  | 7 => .int
  | _ => .int
abbrev wsX30 : List Cond := u_ws RX3 TX3 9
theorem nmX3 : ∀ a, a < 9 → ∀ b, b < 9 → a ≠ b → (TX3 a).2.1 ≠ (TX3 b).2.1 := by decide +kernel
theorem tyX3_ok : ∀ k, k < 9 → parseFieldDescriptor (TX3 k).2.2.1 = some (tyX3 k) := by decide +kernel
abbrev cX3_init : ByteArray := prog_1_method_1_code
def yX3_init : MethodName := ⟨RX3, "<init>", "()V"⟩
abbrev cX3_addTablet : ByteArray := prog_1_method_2_code
def yX3_addTablet : MethodName := ⟨RX3, "addTablet", "(I)I"⟩
abbrev cX3_write : ByteArray := prog_1_method_3_code
def yX3_write : MethodName := ⟨RX3, "write", "(IIIII)I"⟩
abbrev cX3_pay : ByteArray := prog_1_method_4_code
def yX3_pay : MethodName := ⟨RX3, "pay", "(III)I"⟩
abbrev cX3_deny : ByteArray := prog_1_method_5_code
def yX3_deny : MethodName := ⟨RX3, "deny", "(II)I"⟩
abbrev cX3_smooth : ByteArray := prog_1_method_6_code
def yX3_smooth : MethodName := ⟨RX3, "smooth", "(I)I"⟩
abbrev cX3_turn : ByteArray := prog_1_method_7_code
def yX3_turn : MethodName := ⟨RX3, "turn", "(I)Z"⟩
abbrev cX3_carry : ByteArray := prog_1_method_8_code
def yX3_carry : MethodName := ⟨RX3, "carry", "(I)Z"⟩
abbrev cX3_setHeat : ByteArray := prog_1_method_9_code
def yX3_setHeat : MethodName := ⟨RX3, "setHeat", "(II)I"⟩
abbrev cX3_pass : ByteArray := prog_1_method_10_code
def yX3_pass : MethodName := ⟨RX3, "pass", "(I)I"⟩
abbrev cX3_year : ByteArray := prog_1_method_11_code
def yX3_year : MethodName := ⟨RX3, "year", "()I"⟩
abbrev cX3_tablets : ByteArray := prog_1_method_12_code
def yX3_tablets : MethodName := ⟨RX3, "tablets", "()I"⟩
abbrev cX3_lines : ByteArray := prog_1_method_13_code
def yX3_lines : MethodName := ⟨RX3, "lines", "()I"⟩
abbrev cX3_melted : ByteArray := prog_1_method_14_code
def yX3_melted : MethodName := ⟨RX3, "melted", "()I"⟩
abbrev cX3_denied : ByteArray := prog_1_method_15_code
def yX3_denied : MethodName := ⟨RX3, "denied", "()I"⟩
abbrev cX3_isThere : ByteArray := prog_1_method_16_code
def yX3_isThere : MethodName := ⟨RX3, "isThere", "(I)Z"⟩
abbrev cX3_linesOf : ByteArray := prog_1_method_17_code
def yX3_linesOf : MethodName := ⟨RX3, "linesOf", "(I)I"⟩
abbrev cX3_isInCellar : ByteArray := prog_1_method_18_code
def yX3_isInCellar : MethodName := ⟨RX3, "isInCellar", "(I)Z"⟩
abbrev cX3_debtorOf : ByteArray := prog_1_method_19_code
def yX3_debtorOf : MethodName := ⟨RX3, "debtorOf", "(II)I"⟩
abbrev cX3_creditorOf : ByteArray := prog_1_method_20_code
def yX3_creditorOf : MethodName := ⟨RX3, "creditorOf", "(II)I"⟩
abbrev cX3_amountOf : ByteArray := prog_1_method_21_code
def yX3_amountOf : MethodName := ⟨RX3, "amountOf", "(II)I"⟩
abbrev cX3_isWitnessed : ByteArray := prog_1_method_22_code
def yX3_isWitnessed : MethodName := ⟨RX3, "isWitnessed", "(II)Z"⟩
abbrev cX3_has : ByteArray := prog_1_method_23_code
def yX3_has : MethodName := ⟨RX3, "has", "(I)I"⟩
abbrev cX3_hasOn : ByteArray := prog_1_method_24_code
def yX3_hasOn : MethodName := ⟨RX3, "hasOn", "(II)I"⟩
abbrev cX3_owes : ByteArray := prog_1_method_25_code
def yX3_owes : MethodName := ⟨RX3, "owes", "(II)I"⟩
abbrev cX3_total : ByteArray := prog_1_method_26_code
def yX3_total : MethodName := ⟨RX3, "total", "()I"⟩
abbrev cX3_richest : ByteArray := prog_1_method_27_code
def yX3_richest : MethodName := ⟨RX3, "richest", "()I"⟩
abbrev cX3_owesAlong : ByteArray := prog_1_method_28_code
def yX3_owesAlong : MethodName := ⟨RX3, "owesAlong", "(I)I"⟩
abbrev cX3_isRound : ByteArray := prog_1_method_29_code
def yX3_isRound : MethodName := ⟨RX3, "isRound", "()Z"⟩
abbrev cX3_linesSmoothed : ByteArray := prog_1_method_30_code
def yX3_linesSmoothed : MethodName := ⟨RX3, "linesSmoothed", "(I)I"⟩
abbrev cX3_atRisk : ByteArray := prog_1_method_32_code
def yX3_atRisk : MethodName := ⟨RX3, "atRisk", "(I)I"⟩
abbrev cX3_yearsUntilMelted : ByteArray := prog_1_method_33_code
def yX3_yearsUntilMelted : MethodName := ⟨RX3, "yearsUntilMelted", "(I)I"⟩
abbrev cX3_meltsIn : ByteArray := prog_1_method_34_code
def yX3_meltsIn : MethodName := ⟨RX3, "meltsIn", "(I)I"⟩
abbrev cX3_meanAmount : ByteArray := prog_1_method_35_code
def yX3_meanAmount : MethodName := ⟨RX3, "meanAmount", "()D"⟩
abbrev cX3_tabletAt : ByteArray := prog_1_method_37_code
def yX3_tabletAt : MethodName := ⟨RX3, "tabletAt", "(I)LTallyWax$Tablet;"⟩
abbrev cX3_linesWith : ByteArray := prog_1_method_38_code
def yX3_linesWith : MethodName := ⟨RX3, "linesWith", "(II)LTallyWax$LineList;"⟩
abbrev cX3_isPerson : ByteArray := prog_1_method_39_code
def yX3_isPerson : MethodName := ⟨RX3, "isPerson", "(I)Z"⟩
abbrev cX3_checkPerson : ByteArray := prog_1_method_40_code
def yX3_checkPerson : MethodName := ⟨RX3, "checkPerson", "(I)V"⟩
abbrev cX3_checkYears : ByteArray := prog_1_method_41_code
def yX3_checkYears : MethodName := ⟨RX3, "checkYears", "(I)V"⟩
abbrev cX3_isPresent : ByteArray := prog_1_method_42_code
def yX3_isPresent : MethodName := ⟨RX3, "isPresent", "(I)Z"⟩
abbrev cX3_passOneYear : ByteArray := prog_1_method_43_code
def yX3_passOneYear : MethodName := ⟨RX3, "passOneYear", "()I"⟩
abbrev cX3_heatAfter : ByteArray := prog_1_method_44_code
def yX3_heatAfter : MethodName := ⟨RX3, "heatAfter", "(I)I"⟩
abbrev cX3_yearsLeftOf : ByteArray := prog_1_method_45_code
def yX3_yearsLeftOf : MethodName := ⟨RX3, "yearsLeftOf", "(LTallyWax$Tablet;)I"⟩
abbrev cX3_balanceOf : ByteArray := prog_1_method_46_code
def yX3_balanceOf : MethodName := ⟨RX3, "balanceOf", "(I)I"⟩
abbrev cX3_followLines : ByteArray := prog_1_method_47_code
def yX3_followLines : MethodName := ⟨RX3, "followLines", "()V"⟩
abbrev cX3_creditorBits : ByteArray := prog_1_method_48_code
def yX3_creditorBits : MethodName := ⟨RX3, "creditorBits", "(I)I"⟩
abbrev cX3_holds : ByteArray := prog_1_method_49_code
def yX3_holds : MethodName := ⟨RX3, "holds", "(II)Z"⟩
abbrev cX3_linesLeftOn : ByteArray := prog_1_method_50_code
def yX3_linesLeftOn : MethodName := ⟨RX3, "linesLeftOn", "(LTallyWax$Tablet;)I"⟩
def RX4 : String := "TallyWaxLaw$Sim"
def TX4 : u_T := fun k => match k with
  | 0 => ("TallyWaxLaw$Sim", "there", "[Z", false)
  | 1 => ("TallyWaxLaw$Sim", "heat", "[I", false)
  | 2 => ("TallyWaxLaw$Sim", "tablets", "[[I", false)
  | 3 => ("TallyWaxLaw$Sim", "lines", "[[[I", false)
  | 4 => ("TallyWaxLaw$Sim", "year", "I", false)
  | 5 => ("TallyWaxLaw$Sim", "melted", "I", false)
  | _ => ("TallyWaxLaw$Sim", "denied", "I", false)
def tyX4 : Nat → FieldType := fun k => match k with
  | 0 => .array .boolean
  | 1 => .array .int
  | 2 => .array (.array .int)
  | 3 => .array (.array (.array .int))
  | 4 => .int
  | 5 => .int
  | _ => .int
abbrev wsX40 : List Cond := u_ws RX4 TX4 7
theorem nmX4 : ∀ a, a < 7 → ∀ b, b < 7 → a ≠ b → (TX4 a).2.1 ≠ (TX4 b).2.1 := by decide +kernel
theorem tyX4_ok : ∀ k, k < 7 → parseFieldDescriptor (TX4 k).2.2.1 = some (tyX4 k) := by decide +kernel
abbrev cX4_init : ByteArray := prog_6_method_1_code
def yX4_init : MethodName := ⟨RX4, "<init>", "()V"⟩
abbrev cX4_with : ByteArray := prog_6_method_2_code
def yX4_with : MethodName := ⟨RX4, "with", "([[I[I)[[I"⟩
abbrev cX4_without : ByteArray := prog_6_method_3_code
def yX4_without : MethodName := ⟨RX4, "without", "([[II)[[I"⟩
abbrev cX4_has : ByteArray := prog_6_method_4_code
def yX4_has : MethodName := ⟨RX4, "has", "([[I)[I"⟩
abbrev cX4_smooth : ByteArray := prog_6_method_5_code
def yX4_smooth : MethodName := ⟨RX4, "smooth", "(I)[[I"⟩
abbrev cX4_melts : ByteArray := prog_6_method_6_code
def yX4_melts : MethodName := ⟨RX4, "melts", "(II)Z"⟩
abbrev cX4_pass : ByteArray := prog_6_method_7_code
def yX4_pass : MethodName := ⟨RX4, "pass", "(I)I"⟩
abbrev cX4_total : ByteArray := prog_6_method_8_code
def yX4_total : MethodName := ⟨RX4, "total", "()I"⟩
abbrev cX4_isSame : ByteArray := prog_6_method_9_code
def yX4_isSame : MethodName := ⟨RX4, "isSame", "(LTallyWax;)Z"⟩
def RX5 : String := "TallyWaxModel"
def TX5 : u_T := fun k => match k with
  | _ => ("", "", "", false)
def tyX5 : Nat → FieldType := fun k => match k with
  | _ => .int
abbrev wsX50 : List Cond := u_ws RX5 TX5 0
theorem nmX5 : ∀ a, a < 0 → ∀ b, b < 0 → a ≠ b → (TX5 a).2.1 ≠ (TX5 b).2.1 := by decide +kernel
theorem tyX5_ok : ∀ k, k < 0 → parseFieldDescriptor (TX5 k).2.2.1 = some (tyX5 k) := by decide +kernel
def RJ6 : String := "java/lang/Integer"
abbrev cJ6_bitCount_0f7a4 : ByteArray := prog_12_method_49_code
def yJ6_bitCount_0f7a4 : MethodName := ⟨RJ6, "bitCount", "(I)I"⟩
def RJ9 : String := "java/lang/Math"
abbrev cJ9_floorMod_7cf53 : ByteArray := prog_13_method_50_code
def yJ9_floorMod_7cf53 : MethodName := ⟨RJ9, "floorMod", "(II)I"⟩
def RL : String := "TallyWaxLaw"
abbrev cL_below : ByteArray := method_2_code
def yL_below : MethodName := ⟨RL, "below", "(II)I"⟩
abbrev cL_cell : ByteArray := method_3_code
def yL_cell : MethodName := ⟨RL, "cell", "([II)I"⟩
abbrev cL_act : ByteArray := method_4_code
def yL_act : MethodName := ⟨RL, "act", "(LTallyWax;LTallyWaxLaw$Sim;I)Z"⟩
abbrev cL_build : ByteArray := method_5_code
def yL_build : MethodName := ⟨RL, "build", "(LTallyWax;[I)LTallyWaxLaw$Sim;"⟩
abbrev cL_law : ByteArray := code
def yL_law : MethodName := ⟨RL, "law", "([I)Z"⟩
abbrev vwCl : List vw_C := [(RX0, TX0, 5), (RX1, TX1, 2), (RX2, TX2, 3), (RX3, TX3, 9), (RX4, TX4, 7)]
end
section
/-! ===== the walker: an abstract heap by real addresses, and one judgement V over W; pure stretches run by computation ===== -/
abbrev Gt : Type := Launch × State × Array Value × (Nat → ClassId) × (Nat → Nat → Nat) × (Nat → ClassId)
def gN (G : Gt) : Nat := G.2.1.heap.size
def gF (G : Gt) : Nat → Prop := fun q => gN G ≤ q
def gTy : Nat → FieldType := fun k => match k with
  | 0 => .int
  | 1 => .boolean
  | 2 => .array .int
  | 3 => .object "TallyWax$Tablet"
  | _ => .array (.array .int)
def gD (G : Gt) : va_G := (G.2.2.2.1, G.2.2.2.2.1)
def gA (G : Gt) : Nat → ClassId := G.2.2.2.2.2
def gTys (G : Gt) : List (ClassId × FieldType) := [(gA G 0, gTy 0), (gA G 1, gTy 1), (gA G 2, gTy 2), (gA G 3, gTy 3), (gA G 4, gTy 4)]
def GOk (G : Gt) : Prop := G.1.stackTraces = false ∧ (∀ w ∈ lw_tbl, w.before G.2.2.1 G.2.1 = true) ∧ va_K (gD G) vwCl (gTys G) G.2.1 ∧ vx_Zq Bundle.tN "UNASSIGNED_STACK" Bundle.steD (gF G) G.2.1 G.2.1.heap ∧ vx_Zq Bundle.tN "SUPPRESSED_SENTINEL" Bundle.listD (gF G) G.2.1 G.2.1.heap ∧ (∀ own k tx, Cond.stringRef own k tx ∈ lw_tbl → ∃ sa, vk_R own k tx sa G.2.1)
abbrev Ft : Type := Program × Env × Room × State × MethodId × Array Value × List Frame × Method × Code
abbrev fR (F : Ft) : Room := F.2.2.1
abbrev fS (F : Ft) : State := F.2.2.2.1
abbrev fM (F : Ft) : MethodId := F.2.2.2.2.1
abbrev fA (F : Ft) : Array Value := F.2.2.2.2.2.1
abbrev fB (F : Ft) : List Frame := F.2.2.2.2.2.2.1
abbrev fMe (F : Ft) : Method := F.2.2.2.2.2.2.2.1
abbrev fC (F : Ft) : Code := F.2.2.2.2.2.2.2.2
/-- the state's tables and old heap are the start's -/
def St (G : Gt) (U : State) : Prop := G.2.1.WarmedH U.vm ∧ gN G ≤ U.heap.size ∧ ∀ a : Nat, a < gN G → U.heap[a]? = G.2.1.heap[a]?
def Ok (G : Gt) (F : Ft) (own : String) (cc : ByteArray) (nL : Nat) (ret : Option FieldType) : Prop :=
  F.1.tables.exec = Jvm.exec ∧ (fC F).code = cc ∧ (fC F).maxLocals = nL ∧ (fMe F).sig.returnType = ret ∧ (fS F).vm.findClass own = some (fM F).cls ∧ (fMe F).locks = false ∧ St G (fS F)
def NoTab (F : Ft) : Prop := ∀ x ∈ (fC F).exceptionTable.toList, False
def kw (w : Cond) : Bool := match w with
  | .fieldLinkNest .. => true
  | .methodLinkNest .. => true
  | .declares _ => true
  | .castable .. => true
  | w => goodWord w
theorem Ok.wd {G : Gt} {F : Ft} {own : String} {cc : ByteArray} {nL : Nat} {ret : Option FieldType} (hG : GOk G) (hF : Ok G F own cc nL ret) {w : Cond} (hw : w ∈ lw_tbl) (hk : kw w = true) : w.before (fA F) (fS F) = true := by
  have h0 := hG.2.1 w hw
  have hW : G.2.1.WarmedH (fS F).vm := hF.2.2.2.2.2.2.1
  by_cases hg : goodWord w = true
  · exact word_at hW (good_of_word hg) h0
  · cases w with
    | fieldLinkNest a i b n d h => exact va_Nw.use rfl (va_Nw.warmF hW (va_Nw.of rfl h0))
    | methodLinkNest a i x h => exact va_Nw.use rfl (va_Nw.warmM hW (va_Nw.of rfl h0))
    | declares x => exact va_Nw.use rfl (va_Nw.warmD hW (va_Nw.of rfl h0))
    | castable a b => exact va_Nw.use rfl (va_Nw.warmC hW (va_Nw.of rfl h0))
    | _ => exact absurd hk hg
theorem Ok.K {G : Gt} {F : Ft} {own : String} {cc : ByteArray} {nL : Nat} {ret : Option FieldType} (hG : GOk G) (hF : Ok G F own cc nL ret) : va_K (gD G) vwCl (gTys G) (fS F) :=
  va_K.moved (State.WarmedH.alike hF.2.2.2.2.2.2.1) hG.2.2.1
theorem Ok.W {G : Gt} {F : Ft} {own : String} {cc : ByteArray} {nL : Nat} {ret : Option FieldType} (hF : Ok G F own cc nL ret) : G.2.1.WarmedH (fS F).vm := hF.2.2.2.2.2.2.1
-- heaps
abbrev Hp : Type := Nat → Option va_E
def hset (h : Hp) (a : Nat) (c : va_E) : Hp := fun q => if q = a then some c else h q
theorem hset_eq {h : Hp} {a : Nat} {c : va_E} : hset h a c a = some c := if_pos rfl
theorem hset_ne {h : Hp} {a b : Nat} {c : va_E} (hb : b ≠ a) : hset h a c b = h b := if_neg hb
def trc (A : Nat → ClassId) (c : va_E) : va_E := match c with
  | .inl (k, x) => .inl (A k, x)
  | .inr o => .inr o
def Rp (G : Gt) (h : Hp) (H : Heap) : Prop := ∀ (a : Nat) (c : va_E), h a = some c → gN G ≤ a ∧ va_at (gD G) vwCl (a, trc (gA G) c) H
theorem Rp.one {G : Gt} {h : Hp} {H : Heap} {a : Nat} {c : va_E} (hR : Rp G h H) (hc : h a = some c) : va_P (gD G) vwCl [(a, trc (gA G) c)] H := by
  intro k q hk
  have hz : k < 1 := (List.getElem?_eq_some_iff.mp hk).1
  rw [show k = 0 by omega] at hk
  cases hk
  exact (hR a c hc).2
theorem Rp.kept {G : Gt} {h : Hp} {H H1 : Heap} (hR : Rp G h H) (hq : ∀ q : Nat, q < H.size → H1[q]? = H[q]?) : Rp G h H1 :=
  fun a c hc => ⟨(hR a c hc).1, (hR a c hc).2.kept (hq a (hR a c hc).2.lt)⟩
theorem Rp.store {G : Gt} {h : Hp} {H H1 : Heap} {a : Nat} {c : va_E} (hR : Rp G h H) (ha : gN G ≤ a) (hc : va_at (gD G) vwCl (a, trc (gA G) c) H1) (oq : ∀ q : Nat, q ≠ a → H1[q]? = H[q]?) : Rp G (hset h a c) H1 := by
  intro b d hb
  by_cases hba : b = a
  · subst hba
    rw [hset_eq] at hb
    cases hb
    exact ⟨ha, hc⟩
  · rw [hset_ne hba] at hb
    exact ⟨(hR b d hb).1, (hR b d hb).2.kept (oq b hba)⟩
theorem Rp.fresh {G : Gt} {h : Hp} {H : Heap} (hR : Rp G h H) : h H.size = none := by
  cases hc : h H.size with
  | none => rfl
  | some c => exact absurd (hR _ c hc).2.lt (Nat.lt_irrefl _)
theorem Rp.weak {G : Gt} {h h' : Hp} {H : Heap} (hR : Rp G h H) (hw : ∀ a c, h' a = some c → h a = some c) : Rp G h' H := fun a c hc => hR a c (hw a c hc)
-- locals
def LR (ls : Array Slot) (L : List (Option Value)) : Prop := lv_wf ls ∧ ∀ (i : Nat) (v : Value), L[i]? = some (some v) → ls[i]? = some (.val v)
def catAt (L : List (Option Value)) (i : Nat) : Bool := match L[i]? with
  | some (some v) => v.category == 2
  | _ => false
def lset1 (L : List (Option Value)) (i : Nat) (v : Value) : List (Option Value) := (match i with
  | 0 => L
  | j + 1 => if catAt L j then L.set j none else L).set i (some v)
def lset2 (L : List (Option Value)) (i : Nat) (v : Value) : List (Option Value) := (lset1 L i v).set (i + 1) none
theorem set_gs {α : Type} {l : List α} {i : Nat} {a b : α} (h : (l.set i a)[i]? = some b) : b = a := by
  have hl : i < (l.set i a).length := (List.getElem?_eq_some_iff.mp h).1
  rw [List.length_set] at hl
  rw [List.getElem?_set_self hl] at h
  exact (Option.some.inj h).symm
theorem lset1_get {L : List (Option Value)} {i k : Nat} {v w : Value} (h : (lset1 L i v)[k]? = some (some w)) : (k = i ∧ w = v) ∨ (k ≠ i ∧ L[k]? = some (some w) ∧ ¬ (k + 1 = i ∧ w.category = 2)) := by
  by_cases hk : k = i
  · subst hk
    left
    refine ⟨rfl, ?_⟩
    unfold lset1 at h
    exact Option.some.inj (set_gs h)
  · right
    refine ⟨hk, ?_⟩
    unfold lset1 at h
    rw [List.getElem?_set_ne (Ne.symm hk)] at h
    cases i with
    | zero => exact ⟨h, fun z => by omega⟩
    | succ j =>
      simp only at h
      by_cases hc : catAt L j = true
      · rw [if_pos hc] at h
        by_cases hkj : k = j
        · subst hkj
          cases set_gs h
        · rw [List.getElem?_set_ne (Ne.symm hkj)] at h
          exact ⟨h, fun z => hkj (by omega)⟩
      · rw [if_neg hc] at h
        refine ⟨h, fun z => hc ?_⟩
        have : k = j := by omega
        subst this
        unfold catAt
        rw [h]
        simp [z.2]
theorem LR.st1 {ls : Array Slot} {L : List (Option Value)} {i : Nat} {v : Value} (h : LR ls L) (hi : i < ls.size) (hc : v.category = 1) : ∃ ls', storeLocals ls i v = some ls' ∧ LR ls' (lset1 L i v) ∧ ls'.size = ls.size := by
  obtain ⟨ls', e, h'⟩ := lv_store1 (l := []) (v := v) (nL := ls.size) ⟨rfl, h.1, fun q hq => by cases hq⟩ hi hc
  refine ⟨ls', e, ⟨h'.2.1, fun k w hw => ?_⟩, h'.1⟩
  rcases lset1_get hw with ⟨rfl, rfl⟩ | ⟨h1, h2, h3⟩
  · exact h'.2.2 (k, w) List.mem_cons_self
  · obtain ⟨ls2, e2, h2'⟩ := lv_store1 (l := [(k, w)]) (v := v) (nL := ls.size) ⟨rfl, h.1, fun q hq => by
      rw [List.mem_singleton.mp hq]; exact h.2 k w h2⟩ hi hc
    cases Option.some.inj (e.symm.trans e2)
    refine h2'.2.2 (k, w) (List.mem_cons_of_mem _ (List.mem_filter.mpr ⟨List.mem_singleton.mpr rfl, ?_⟩))
    simp only [Bool.and_eq_true, Bool.not_eq_true', beq_eq_false_iff_ne, Bool.and_eq_false_imp, beq_iff_eq]
    exact ⟨h1, fun z1 z2 => h3 ⟨z1, by simpa using z2⟩⟩
theorem LR.st2 {ls : Array Slot} {L : List (Option Value)} {i : Nat} {v : Value} (h : LR ls L) (hi : i + 1 < ls.size) (hc : v.category = 2) : ∃ ls', storeLocals ls i v = some ls' ∧ LR ls' (lset2 L i v) ∧ ls'.size = ls.size := by
  obtain ⟨ls', e, h'⟩ := lv_store2 (l := []) (v := v) (nL := ls.size) ⟨rfl, h.1, fun q hq => by cases hq⟩ hi hc
  refine ⟨ls', e, ⟨h'.2.1, fun k w hw => ?_⟩, h'.1⟩
  have hk : k ≠ i + 1 := by
    intro hk
    subst hk
    unfold lset2 at hw
    cases set_gs hw
  unfold lset2 at hw
  rw [List.getElem?_set_ne (Ne.symm hk)] at hw
  rcases lset1_get hw with ⟨rfl, rfl⟩ | ⟨h1, h2, h3⟩
  · exact h'.2.2 (k, w) List.mem_cons_self
  · obtain ⟨ls2, e2, h2'⟩ := lv_store2 (l := [(k, w)]) (v := v) (nL := ls.size) ⟨rfl, h.1, fun q hq => by
      rw [List.mem_singleton.mp hq]; exact h.2 k w h2⟩ hi hc
    cases Option.some.inj (e.symm.trans e2)
    refine h2'.2.2 (k, w) (List.mem_cons_of_mem _ (List.mem_filter.mpr ⟨List.mem_singleton.mpr rfl, ?_⟩))
    simp only [Bool.and_eq_true, Bool.not_eq_true', beq_eq_false_iff_ne, Bool.and_eq_false_imp, beq_iff_eq]
    exact ⟨h1, hk, fun z1 z2 => h3 ⟨z1, by simpa using z2⟩⟩
-- the judgement
def VW (G : Gt) (F : Ft) (Q : State → Prop) (H : Heap) (locs : List Loc) (cells slots : Nat) (g : JFrame) : Prop :=
  W F.1 G.1 F.2.1 (fR F) (fS F) (fM F) (fA F) (fB F) (fMe F) (fC F) H locs cells slots Q g
def V (G : Gt) (F : Ft) (Q : State → Prop) (kc ks pc : Nat) (L : List (Option Value)) (st : List Value) (h : Hp) : Prop :=
  ∀ (H : Heap) (locs : List Loc) (ls : Array Slot) (cells slots : Nat), Rp G h H → va_S (gF G) (fS F).heap H locs → LR ls L → ls.size = (fC F).maxLocals → cells + kc ≤ (fR F).cells → slots + ks ≤ (fR F).slots → VW G F Q H locs cells slots (F0 (fM F) pc ls st)
def VX (G : Gt) (F : Ft) (Q : State → Prop) (kc ks pc : Nat) (L : List (Option Value)) (E : String) (h : Hp) : Prop :=
  ∀ (H : Heap) (locs : List Loc) (ls : Array Slot) (rest : List Value) (cells slots : Nat) (q : Addr) (ce : Cell), Rp G h H → va_S (gF G) (fS F).heap H locs → LR ls L → ls.size = (fC F).maxLocals → cells + kc ≤ (fR F).cells → slots + ks ≤ (fR F).slots → H[q]? = some ce → ce.vm = .none → (fS F).vm.findClass E = some ce.cls →
    vx_W F.1 G.1 F.2.1 (fR F) (fS F) (fM F) (fA F) (fB F) (fMe F) (fC F) H locs cells slots Q (F0 (fM F) pc ls rest) q
theorem V.weak {G : Gt} {F : Ft} {Q : State → Prop} {kc ks pc : Nat} {L : List (Option Value)} {st : List Value} {h h' : Hp} (hw : ∀ a c, h' a = some c → h a = some c) (k : V G F Q kc ks pc L st h') : V G F Q kc ks pc L st h :=
  fun H locs ls cells slots hR => k H locs ls cells slots (hR.weak hw)
theorem V.less {G : Gt} {F : Ft} {Q : State → Prop} {kc ks kc' ks' pc : Nat} {L : List (Option Value)} {st : List Value} {h : Hp} (h1 : kc' ≤ kc) (h2 : ks' ≤ ks) (k : V G F Q kc' ks' pc L st h) : V G F Q kc ks pc L st h :=
  fun H locs ls cells slots hR hS hL hz q1 q2 => k H locs ls cells slots hR hS hL hz (by omega) (by omega)
/-- forgetting locals -/
theorem V.loc {G : Gt} {F : Ft} {Q : State → Prop} {kc ks pc : Nat} {L L' : List (Option Value)} {st : List Value} {h : Hp} (hL' : ∀ (i : Nat) (v : Value), L'[i]? = some (some v) → L[i]? = some (some v)) (k : V G F Q kc ks pc L' st h) : V G F Q kc ks pc L st h :=
  fun H locs ls cells slots hR hS hL => k H locs ls cells slots hR hS ⟨hL.1, fun i v hv => hL.2 i v (hL' i v hv)⟩
end
section
/-! ===== pure instructions: one step as a function, and a run of them ===== -/
/-- the constant that an instruction holds is the value v -/
def okc (i : Instr) (v : Value) : Bool := match i with
  | .iconst n => decide (v = .int (Int32.ofInt n))
  | .bipush n => decide (v = .int (Int8.ofInt n).toInt32)
  | .sipush n => decide (v = .int (Int16.ofInt n).toInt32)
  | .lconst n => decide (v = .long (Int64.ofNat (n : Nat)))
  | .iinc _ n => decide (v = .int (Int32.ofInt n))
  | _ => true
def npc (i : Instr) (len pc : Nat) : Nat := match i with
  | .goto off => ((pc : Int) + off).toNat
  | _ => pc + len
def okn (i : Instr) (pc : Nat) : Bool := match i with
  | .goto off => decide (0 ≤ (pc : Int) + off)
  | _ => true
def okseg (cc : ByteArray) : Nat → List (Instr × Nat × Value) → Bool
  | _, [] => true
  | pc, (i, len, v) :: r => decide (decode cc pc = .ok (i, len)) && (okc i v && (okn i pc && okseg cc (npc i len pc) r))
abbrev Cf : Type := List (Option Value) × List Value
def pld (L : List (Option Value)) (st : List Value) (i : Nat) : Option Cf := match L[i]? with
  | some (some v) => some (L, v :: st)
  | _ => none
def pstep (i : Instr) (len : Nat) (cv : Value) (nL : Nat) (L : List (Option Value)) (st : List Value) : Option Cf := match i, len with
  | .iconst _, 1 => some (L, cv :: st)
  | .bipush _, 2 => some (L, cv :: st)
  | .sipush _, 3 => some (L, cv :: st)
  | .lconst _, 1 => some (L, cv :: st)
  | .aconst_null, 1 => some (L, .null :: st)
  | .iload_n k, 1 => match L[(k : Nat)]? with
    | some (some (.int x)) => some (L, .int x :: st)
    | _ => none
  | .iload k, 2 => match L[k]? with
    | some (some (.int x)) => some (L, .int x :: st)
    | _ => none
  | .lload_n k, 1 => match L[(k : Nat)]? with
    | some (some (.long x)) => some (L, .long x :: st)
    | _ => none
  | .lload k, 2 => match L[k]? with
    | some (some (.long x)) => some (L, .long x :: st)
    | _ => none
  | .dload_n k, 1 => match L[(k : Nat)]? with
    | some (some (.double x)) => some (L, .double x :: st)
    | _ => none
  | .dload k, 2 => match L[k]? with
    | some (some (.double x)) => some (L, .double x :: st)
    | _ => none
  | .aload_n k, 1 => match L[(k : Nat)]? with
    | some (some (.ref x)) => some (L, .ref x :: st)
    | some (some .null) => some (L, .null :: st)
    | _ => none
  | .aload k, 2 => match L[k]? with
    | some (some (.ref x)) => some (L, .ref x :: st)
    | some (some .null) => some (L, .null :: st)
    | _ => none
  | .istore_n k, 1 => match st with
    | .int x :: r => if (k : Nat) < nL then some (lset1 L k (.int x), r) else none
    | _ => none
  | .istore k, 2 => match st with
    | .int x :: r => if k < nL then some (lset1 L k (.int x), r) else none
    | _ => none
  | .astore_n k, 1 => match st with
    | .ref x :: r => if (k : Nat) < nL then some (lset1 L k (.ref x), r) else none
    | .null :: r => if (k : Nat) < nL then some (lset1 L k .null, r) else none
    | _ => none
  | .astore k, 2 => match st with
    | .ref x :: r => if k < nL then some (lset1 L k (.ref x), r) else none
    | .null :: r => if k < nL then some (lset1 L k .null, r) else none
    | _ => none
  | .lstore_n k, 1 => match st with
    | .long x :: r => if (k : Nat) + 1 < nL then some (lset2 L k (.long x), r) else none
    | _ => none
  | .lstore k, 2 => match st with
    | .long x :: r => if k + 1 < nL then some (lset2 L k (.long x), r) else none
    | _ => none
  | .dstore_n k, 1 => match st with
    | .double x :: r => if (k : Nat) + 1 < nL then some (lset2 L k (.double x), r) else none
    | _ => none
  | .dstore k, 2 => match st with
    | .double x :: r => if k + 1 < nL then some (lset2 L k (.double x), r) else none
    | _ => none
  | .iinc k _, 3 => match L[k]?, cv with
    | some (some (.int x)), .int y => if k < nL then some (lset1 L k (.int (x + y)), st) else none
    | _, _ => none
  | .iadd, 1 => match st with
    | .int y :: .int x :: r => some (L, .int (x + y) :: r)
    | _ => none
  | .isub, 1 => match st with
    | .int y :: .int x :: r => some (L, .int (x - y) :: r)
    | _ => none
  | .imul, 1 => match st with
    | .int y :: .int x :: r => some (L, .int (x * y) :: r)
    | _ => none
  | .iand, 1 => match st with
    | .int y :: .int x :: r => some (L, .int (x &&& y) :: r)
    | _ => none
  | .ior, 1 => match st with
    | .int y :: .int x :: r => some (L, .int (x ||| y) :: r)
    | _ => none
  | .ixor, 1 => match st with
    | .int y :: .int x :: r => some (L, .int (x ^^^ y) :: r)
    | _ => none
  | .ishl, 1 => match st with
    | .int y :: .int x :: r => some (L, .int (x <<< (y &&& 31)) :: r)
    | _ => none
  | .ishr, 1 => match st with
    | .int y :: .int x :: r => some (L, .int (x >>> (y &&& 31)) :: r)
    | _ => none
  | .iushr, 1 => match st with
    | .int y :: .int x :: r => some (L, .int (x.toUInt32 >>> (y.toUInt32 &&& Int32.toUInt32 31)).toInt32 :: r)
    | _ => none
  | .ineg, 1 => match st with
    | .int x :: r => some (L, .int (-x) :: r)
    | _ => none
  | .i2l, 1 => match st with
    | .int x :: r => some (L, .long x.toInt64 :: r)
    | _ => none
  | .i2d, 1 => match st with
    | .int x :: r => some (L, .double (FP.i2d x) :: r)
    | _ => none
  | .ladd, 1 => match st with
    | .long y :: .long x :: r => some (L, .long (x + y) :: r)
    | _ => none
  | .lmul, 1 => match st with
    | .long y :: .long x :: r => some (L, .long (x * y) :: r)
    | _ => none
  | .lcmp, 1 => match st with
    | .long y :: .long x :: r => some (L, .int (lg_cmp x y) :: r)
    | _ => none
  | .dcmp op, 1 => match st with
    | .double y :: .double x :: r => some (L, .int (Op.cmpValue (FP.dcmp x y) op) :: r)
    | _ => none
  | .dup, 1 => match st with
    | v :: r => if v.category = 1 then some (L, v :: v :: r) else none
    | _ => none
  | .dup2, 1 => match st with
    | v :: w :: r => if v.category = 1 ∧ w.category = 1 then some (L, v :: w :: v :: w :: r) else none
    | _ => none
  | .pop, 1 => match st with
    | v :: r => if v.category = 1 then some (L, r) else none
    | _ => none
  | .goto _, 3 => some (L, st)
  | _, _ => none
def prun (nL : Nat) : List (Instr × Nat × Value) → Nat → List (Option Value) → List Value → Option (Nat × Cf)
  | [], pc, L, st => some (pc, L, st)
  | (i, len, v) :: r, pc, L, st => match pstep i len v nL L st with
    | some (L', st') => prun nL r (npc i len pc) L' st'
    | none => none
set_option maxHeartbeats 4000000 in
theorem V.step1 {G : Gt} {F : Ft} {Q : State → Prop} {own : String} {cc : ByteArray} {nL : Nat} {ret : Option FieldType} {kc ks pc : Nat} {L L' : List (Option Value)} {st st' : List Value} {h : Hp} {i : Instr} {len : Nat} {cv : Value} (hF : Ok G F own cc nL ret) (hd : decode cc pc = .ok (i, len)) (hc : okc i cv = true) (hn : okn i pc = true) (hp : pstep i len cv nL L st = some (L', st')) (k : V G F Q kc ks (npc i len pc) L' st' h) : V G F Q kc ks pc L st h := by
  intro H locs ls cells slots hR hS hL hz h1 h2
  obtain ⟨hx, hb, hml, hr, hown, hlk, hW⟩ := hF
  have hsz : ls.size = nL := hz.trans hml
  have key : ∀ ls', LR ls' L' → ls'.size = ls.size → VW G F Q H locs cells slots (F0 (fM F) (npc i len pc) ls' st') := fun ls' e1 e2 => k H locs ls' cells slots hR hS e1 (e2.trans hz) h1 h2
  have same := fun (e : L' = L) => key ls (e ▸ hL) rfl
  clear k
  unfold pstep at hp
  split at hp
  · simp only [okc, decide_eq_true_eq] at hc
    subst hc
    simp only [Option.some.injEq, Prod.mk.injEq] at hp; obtain ⟨rfl, rfl⟩ := hp
    exact lv_iconst hx hb hd rfl (same rfl)
  · simp only [okc, decide_eq_true_eq] at hc
    subst hc
    simp only [Option.some.injEq, Prod.mk.injEq] at hp; obtain ⟨rfl, rfl⟩ := hp
    exact lv_bipush hx hb hd rfl (same rfl)
  · simp only [okc, decide_eq_true_eq] at hc
    subst hc
    simp only [Option.some.injEq, Prod.mk.injEq] at hp; obtain ⟨rfl, rfl⟩ := hp
    exact lv_sipush hx hb hd rfl (same rfl)
  · simp only [okc, decide_eq_true_eq] at hc
    subst hc
    simp only [Option.some.injEq, Prod.mk.injEq] at hp; obtain ⟨rfl, rfl⟩ := hp
    exact lv_lconst hx hb hd rfl (same rfl)
  · simp only [Option.some.injEq, Prod.mk.injEq] at hp; obtain ⟨rfl, rfl⟩ := hp
    exact lv_null hx hb hd (same rfl)
  · split at hp
    · next x he =>
      simp only [Option.some.injEq, Prod.mk.injEq] at hp; obtain ⟨rfl, rfl⟩ := hp
      exact lv_iload_n hx hb hd rfl (hL.2 _ _ he) (same rfl)
    · cases hp
  · split at hp
    · next x he =>
      simp only [Option.some.injEq, Prod.mk.injEq] at hp; obtain ⟨rfl, rfl⟩ := hp
      exact lv_iload hx hb hd (hL.2 _ _ he) (same rfl)
    · cases hp
  · split at hp
    · next x he =>
      simp only [Option.some.injEq, Prod.mk.injEq] at hp; obtain ⟨rfl, rfl⟩ := hp
      exact lv_lload_n hx hb hd rfl (hL.2 _ _ he) (same rfl)
    · cases hp
  · split at hp
    · next x he =>
      simp only [Option.some.injEq, Prod.mk.injEq] at hp; obtain ⟨rfl, rfl⟩ := hp
      exact lv_lload hx hb hd (hL.2 _ _ he) (same rfl)
    · cases hp
  · split at hp
    · next x he =>
      simp only [Option.some.injEq, Prod.mk.injEq] at hp; obtain ⟨rfl, rfl⟩ := hp
      exact lv_dload_n hx hb hd rfl (hL.2 _ _ he) (same rfl)
    · cases hp
  · split at hp
    · next x he =>
      simp only [Option.some.injEq, Prod.mk.injEq] at hp; obtain ⟨rfl, rfl⟩ := hp
      exact lv_dload hx hb hd (hL.2 _ _ he) (same rfl)
    · cases hp
  · split at hp
    · next x he =>
      simp only [Option.some.injEq, Prod.mk.injEq] at hp; obtain ⟨rfl, rfl⟩ := hp
      exact lv_aload_n hx hb hd rfl (hL.2 _ _ he) (same rfl)
    · next he =>
      simp only [Option.some.injEq, Prod.mk.injEq] at hp; obtain ⟨rfl, rfl⟩ := hp
      exact lv_aload_nN hx hb hd rfl (hL.2 _ _ he) (same rfl)
    · cases hp
  · split at hp
    · next x he =>
      simp only [Option.some.injEq, Prod.mk.injEq] at hp; obtain ⟨rfl, rfl⟩ := hp
      exact lv_aload hx hb hd (hL.2 _ _ he) (same rfl)
    · next he =>
      simp only [Option.some.injEq, Prod.mk.injEq] at hp; obtain ⟨rfl, rfl⟩ := hp
      exact lv_aloadN hx hb hd (hL.2 _ _ he) (same rfl)
    · cases hp
  · split at hp
    · next x r =>
      split at hp
      · next hlt =>
        simp only [Option.some.injEq, Prod.mk.injEq] at hp; obtain ⟨rfl, rfl⟩ := hp
        obtain ⟨ls', e1, e2, e3⟩ := hL.st1 (v := .int x) (Nat.lt_of_lt_of_eq hlt hsz.symm) rfl
        intro T hT X
        obtain ⟨t, a, b⟩ := key ls' e2 e3 T hT X
        refine ⟨t, ?_, b⟩
        jvm_step X.here [X.here.top, ↓top_set X.here.top, hx, hb, hd, e1]
        exact a
      · cases hp
    · cases hp
  · split at hp
    · next x r =>
      split at hp
      · next hlt =>
        simp only [Option.some.injEq, Prod.mk.injEq] at hp; obtain ⟨rfl, rfl⟩ := hp
        obtain ⟨ls', e1, e2, e3⟩ := hL.st1 (v := .int x) (Nat.lt_of_lt_of_eq hlt hsz.symm) rfl
        intro T hT X
        obtain ⟨t, a, b⟩ := key ls' e2 e3 T hT X
        refine ⟨t, ?_, b⟩
        jvm_step X.here [X.here.top, ↓top_set X.here.top, hx, hb, hd, e1]
        exact a
      · cases hp
    · cases hp
  · split at hp
    · next x r =>
      split at hp
      · next hlt =>
        simp only [Option.some.injEq, Prod.mk.injEq] at hp; obtain ⟨rfl, rfl⟩ := hp
        obtain ⟨ls', e1, e2, e3⟩ := hL.st1 (v := .ref x) (Nat.lt_of_lt_of_eq hlt hsz.symm) rfl
        intro T hT X
        obtain ⟨t, a, b⟩ := key ls' e2 e3 T hT X
        refine ⟨t, ?_, b⟩
        jvm_step X.here [X.here.top, ↓top_set X.here.top, hx, hb, hd, e1, Value.isRef]
        exact a
      · cases hp
    · next r =>
      split at hp
      · next hlt =>
        simp only [Option.some.injEq, Prod.mk.injEq] at hp; obtain ⟨rfl, rfl⟩ := hp
        obtain ⟨ls', e1, e2, e3⟩ := hL.st1 (v := .null) (Nat.lt_of_lt_of_eq hlt hsz.symm) rfl
        intro T hT X
        obtain ⟨t, a, b⟩ := key ls' e2 e3 T hT X
        refine ⟨t, ?_, b⟩
        jvm_step X.here [X.here.top, ↓top_set X.here.top, hx, hb, hd, e1, Value.isRef]
        exact a
      · cases hp
    · cases hp
  · split at hp
    · next x r =>
      split at hp
      · next hlt =>
        simp only [Option.some.injEq, Prod.mk.injEq] at hp; obtain ⟨rfl, rfl⟩ := hp
        obtain ⟨ls', e1, e2, e3⟩ := hL.st1 (v := .ref x) (Nat.lt_of_lt_of_eq hlt hsz.symm) rfl
        intro T hT X
        obtain ⟨t, a, b⟩ := key ls' e2 e3 T hT X
        refine ⟨t, ?_, b⟩
        jvm_step X.here [X.here.top, ↓top_set X.here.top, hx, hb, hd, e1, Value.isRef]
        exact a
      · cases hp
    · next r =>
      split at hp
      · next hlt =>
        simp only [Option.some.injEq, Prod.mk.injEq] at hp; obtain ⟨rfl, rfl⟩ := hp
        obtain ⟨ls', e1, e2, e3⟩ := hL.st1 (v := .null) (Nat.lt_of_lt_of_eq hlt hsz.symm) rfl
        intro T hT X
        obtain ⟨t, a, b⟩ := key ls' e2 e3 T hT X
        refine ⟨t, ?_, b⟩
        jvm_step X.here [X.here.top, ↓top_set X.here.top, hx, hb, hd, e1, Value.isRef]
        exact a
      · cases hp
    · cases hp
  · split at hp
    · next x r =>
      split at hp
      · next hlt =>
        simp only [Option.some.injEq, Prod.mk.injEq] at hp; obtain ⟨rfl, rfl⟩ := hp
        obtain ⟨ls', e1, e2, e3⟩ := hL.st2 (v := .long x) (Nat.lt_of_lt_of_eq hlt hsz.symm) rfl
        intro T hT X
        obtain ⟨t, a, b⟩ := key ls' e2 e3 T hT X
        refine ⟨t, ?_, b⟩
        jvm_step X.here [X.here.top, ↓top_set X.here.top, hx, hb, hd, e1]
        exact a
      · cases hp
    · cases hp
  · split at hp
    · next x r =>
      split at hp
      · next hlt =>
        simp only [Option.some.injEq, Prod.mk.injEq] at hp; obtain ⟨rfl, rfl⟩ := hp
        obtain ⟨ls', e1, e2, e3⟩ := hL.st2 (v := .long x) (Nat.lt_of_lt_of_eq hlt hsz.symm) rfl
        intro T hT X
        obtain ⟨t, a, b⟩ := key ls' e2 e3 T hT X
        refine ⟨t, ?_, b⟩
        jvm_step X.here [X.here.top, ↓top_set X.here.top, hx, hb, hd, e1]
        exact a
      · cases hp
    · cases hp
  · split at hp
    · next x r =>
      split at hp
      · next hlt =>
        simp only [Option.some.injEq, Prod.mk.injEq] at hp; obtain ⟨rfl, rfl⟩ := hp
        obtain ⟨ls', e1, e2, e3⟩ := hL.st2 (v := .double x) (Nat.lt_of_lt_of_eq hlt hsz.symm) rfl
        intro T hT X
        obtain ⟨t, a, b⟩ := key ls' e2 e3 T hT X
        refine ⟨t, ?_, b⟩
        jvm_step X.here [X.here.top, ↓top_set X.here.top, hx, hb, hd, e1]
        exact a
      · cases hp
    · cases hp
  · split at hp
    · next x r =>
      split at hp
      · next hlt =>
        simp only [Option.some.injEq, Prod.mk.injEq] at hp; obtain ⟨rfl, rfl⟩ := hp
        obtain ⟨ls', e1, e2, e3⟩ := hL.st2 (v := .double x) (Nat.lt_of_lt_of_eq hlt hsz.symm) rfl
        intro T hT X
        obtain ⟨t, a, b⟩ := key ls' e2 e3 T hT X
        refine ⟨t, ?_, b⟩
        jvm_step X.here [X.here.top, ↓top_set X.here.top, hx, hb, hd, e1]
        exact a
      · cases hp
    · cases hp
  · split at hp
    · next x y he =>
      simp only [okc, decide_eq_true_eq, Value.int.injEq] at hc
      subst hc
      have hg := hL.2 _ _ he
      split at hp
      · next hlt =>
        simp only [Option.some.injEq, Prod.mk.injEq] at hp; obtain ⟨rfl, rfl⟩ := hp
        obtain ⟨ls', e1, e2, e3⟩ := hL.st1 (v := .int (x + Int32.ofInt _)) (Nat.lt_of_lt_of_eq hlt hsz.symm) rfl
        intro T hT X
        obtain ⟨t, a, b⟩ := key ls' e2 e3 T hT X
        refine ⟨t, ?_, b⟩
        jvm_step X.here [X.here.top, ↓top_set X.here.top, hx, hb, hd, e1, hg]
        exact a
      · cases hp
    · cases hp
  · split at hp
    · simp only [Option.some.injEq, Prod.mk.injEq] at hp; obtain ⟨rfl, rfl⟩ := hp
      exact lv_iadd hx hb hd (same rfl)
    · cases hp
  · split at hp
    · simp only [Option.some.injEq, Prod.mk.injEq] at hp; obtain ⟨rfl, rfl⟩ := hp
      exact lv_isub hx hb hd (same rfl)
    · cases hp
  · split at hp
    · simp only [Option.some.injEq, Prod.mk.injEq] at hp; obtain ⟨rfl, rfl⟩ := hp
      exact lv_imul hx hb hd (same rfl)
    · cases hp
  · split at hp
    · simp only [Option.some.injEq, Prod.mk.injEq] at hp; obtain ⟨rfl, rfl⟩ := hp
      exact lv_iand hx hb hd (same rfl)
    · cases hp
  · split at hp
    · simp only [Option.some.injEq, Prod.mk.injEq] at hp; obtain ⟨rfl, rfl⟩ := hp
      exact lv_ior hx hb hd (same rfl)
    · cases hp
  · split at hp
    · simp only [Option.some.injEq, Prod.mk.injEq] at hp; obtain ⟨rfl, rfl⟩ := hp
      exact lv_ixor hx hb hd (same rfl)
    · cases hp
  · split at hp
    · simp only [Option.some.injEq, Prod.mk.injEq] at hp; obtain ⟨rfl, rfl⟩ := hp
      exact lv_ishl hx hb hd (same rfl)
    · cases hp
  · split at hp
    · simp only [Option.some.injEq, Prod.mk.injEq] at hp; obtain ⟨rfl, rfl⟩ := hp
      exact lv_ishr hx hb hd (same rfl)
    · cases hp
  · split at hp
    · simp only [Option.some.injEq, Prod.mk.injEq] at hp; obtain ⟨rfl, rfl⟩ := hp
      exact lv_iushr hx hb hd rfl (same rfl)
    · cases hp
  · split at hp
    · simp only [Option.some.injEq, Prod.mk.injEq] at hp; obtain ⟨rfl, rfl⟩ := hp
      exact lv_ineg hx hb hd (same rfl)
    · cases hp
  · split at hp
    · simp only [Option.some.injEq, Prod.mk.injEq] at hp; obtain ⟨rfl, rfl⟩ := hp
      exact lv_i2l hx hb hd rfl (same rfl)
    · cases hp
  · split at hp
    · simp only [Option.some.injEq, Prod.mk.injEq] at hp; obtain ⟨rfl, rfl⟩ := hp
      exact lv_i2d hx hb hd (same rfl)
    · cases hp
  · split at hp
    · simp only [Option.some.injEq, Prod.mk.injEq] at hp; obtain ⟨rfl, rfl⟩ := hp
      exact lv_ladd hx hb hd (same rfl)
    · cases hp
  · split at hp
    · simp only [Option.some.injEq, Prod.mk.injEq] at hp; obtain ⟨rfl, rfl⟩ := hp
      exact lv_lmul hx hb hd (same rfl)
    · cases hp
  · split at hp
    · simp only [Option.some.injEq, Prod.mk.injEq] at hp; obtain ⟨rfl, rfl⟩ := hp
      exact W.lcmp hx hb hd (same rfl)
    · cases hp
  · split at hp
    · simp only [Option.some.injEq, Prod.mk.injEq] at hp; obtain ⟨rfl, rfl⟩ := hp
      exact lv_dcmp hx hb hd (same rfl)
    · cases hp
  · split at hp
    · split at hp
      · next hv =>
        simp only [Option.some.injEq, Prod.mk.injEq] at hp; obtain ⟨rfl, rfl⟩ := hp
        exact lv_dup hx hb hd hv (same rfl)
      · cases hp
    · cases hp
  · split at hp
    · split at hp
      · next hv =>
        simp only [Option.some.injEq, Prod.mk.injEq] at hp; obtain ⟨rfl, rfl⟩ := hp
        exact lv_dup2_11 hx hb hd hv.1 hv.2 (same rfl)
      · cases hp
    · cases hp
  · split at hp
    · split at hp
      · next hv =>
        simp only [Option.some.injEq, Prod.mk.injEq] at hp; obtain ⟨rfl, rfl⟩ := hp
        exact lv_pop hx hb hd hv (same rfl)
      · cases hp
    · cases hp
  · simp only [Option.some.injEq, Prod.mk.injEq] at hp; obtain ⟨rfl, rfl⟩ := hp
    simp only [okn, decide_eq_true_eq] at hn
    exact lv_goto hx hb hd (Int.toNat_of_nonneg hn).symm (same rfl)
  · cases hp
end
section
section M1
variable {G : Gt} {F : Ft} {Q : State → Prop} {own : String} {cc : ByteArray} {nL : Nat} {ret : Option FieldType} {kc ks pc : Nat} {L : List (Option Value)} {st : List Value} {h : Hp}
/-- a pure stretch, by computation -/
theorem V.run (hF : Ok G F own cc nL ret) (seg : List (Instr × Nat × Value)) {pc' : Nat} {L' : List (Option Value)} {st' : List Value} (hs : okseg cc pc seg = true) (hp : prun nL seg pc L st = some (pc', L', st')) (k : V G F Q kc ks pc' L' st' h) : V G F Q kc ks pc L st h := by
  induction seg generalizing pc L st with
  | nil =>
    simp only [prun, Option.some.injEq, Prod.mk.injEq] at hp
    obtain ⟨rfl, rfl, rfl⟩ := hp
    exact k
  | cons x r ih =>
    obtain ⟨i, len, v⟩ := x
    simp only [okseg, Bool.and_eq_true, decide_eq_true_eq] at hs
    obtain ⟨hd, hc, hn, hr⟩ := hs
    simp only [prun] at hp
    split at hp
    · next L1 st1 he => exact V.step1 hF hd hc hn he (ih hr hp)
    · cases hp
theorem cls_ok {ci : Nat} {C : String} {T : u_T} {N : Nat} (hc : vwCl[ci]? = some (C, T, N)) : (∀ w ∈ u_ws C T N, w ∈ lw_tbl ∧ kw w = true) ∧ (∃ ty0 : Nat → FieldType, ∀ k, k < N → parseFieldDescriptor (T k).2.2.1 = some (ty0 k)) ∧ (∀ a, a < N → ∀ b, b < N → a ≠ b → (T a).2.1 ≠ (T b).2.1) := by
  match ci, hc with
  | 0, hc => cases hc; exact ⟨by decide +kernel, ⟨_, tyX0_ok⟩, nmX0⟩
  | 1, hc => cases hc; exact ⟨by decide +kernel, ⟨_, tyX1_ok⟩, nmX1⟩
  | 2, hc => cases hc; exact ⟨by decide +kernel, ⟨_, tyX2_ok⟩, nmX2⟩
  | 3, hc => cases hc; exact ⟨by decide +kernel, ⟨_, tyX3_ok⟩, nmX3⟩
  | 4, hc => cases hc; exact ⟨by decide +kernel, ⟨_, tyX4_ok⟩, nmX4⟩
  | n + 5, hc => simp at hc
/-- the pool's entry ix of 'own' is the field k of class ci (its own name or a nest mate's) -/
def lkF (own : String) (ix ci k : Nat) : Prop := ∃ (C : String) (T : u_T) (N : Nat), vwCl[ci]? = some (C, T, N) ∧ k < N ∧ (Cond.fieldLink own ix (T k).1 (T k).2.1 (T k).2.2.1 ∈ lw_tbl ∨ ∃ host, Cond.fieldLinkNest own ix (T k).1 (T k).2.1 (T k).2.2.1 host ∈ lw_tbl)
def lkFo (own : String) (ix ci k : Nat) : Prop := ∃ (C : String) (T : u_T) (N : Nat), vwCl[ci]? = some (C, T, N) ∧ k < N ∧ Cond.fieldLink own ix (T k).1 (T k).2.1 (T k).2.2.1 ∈ lw_tbl
theorem V.getf (hG : GOk G) (hF : Ok G F own cc nL ret) {ix ci k a : Nat} {vs : List Value} {v : Value} (hl : lkF own ix ci k) (hd : decode cc pc = .ok (.getfield ix, 3)) (hc : h a = some (.inr (ci, vs))) (hv : vs[k]? = some v) (kk : V G F Q kc ks (pc + 3) L (v :: st) h) : V G F Q kc ks pc L (.ref a :: st) h := by
  intro H locs ls cells slots hR hS hL hz h1 h2
  have hK := hF.K hG
  obtain ⟨hx, hb, hml, hr, hown, hlk, hW⟩ := id hF
  obtain ⟨C, T, N, hcl, hk, hlnk⟩ := hl
  have hts : ∀ w ∈ u_ws C T N, w.before (fA F) (fS F) = true := fun w hw => hF.wd hG ((cls_ok hcl).1 w hw).1 ((cls_ok hcl).1 w hw).2
  rcases hlnk with hlnk | ⟨host, hlnk⟩
  · exact va_get hx hb hts (fun _ h => h) hown hK (hR.one hc) 0 rfl hcl k hk (hF.wd hG hlnk rfl) (fun _ h => h) hv hd (kk H locs ls cells slots hR hS hL hz h1 h2)
  · exact va_getN hx hb hts (fun _ h => h) hown hK (hR.one hc) 0 rfl hcl k hk (hF.wd hG hlnk rfl) (fun _ h => h) hv hd (kk H locs ls cells slots hR hS hL hz h1 h2)
/-- a field of an int or boolean, or a reference, that is not final -/
theorem V.putf (hG : GOk G) (hF : Ok G F own cc nL ret) {ix ci k a : Nat} {vs : List Value} {v : Value} (hl : lkF own ix ci k) (hd : decode cc pc = .ok (.putfield ix, 3)) (hc : h a = some (.inr (ci, vs)))
    (hty : ∀ C T N, vwCl[ci]? = some (C, T, N) → (T k).2.2.2 = false ∧ ∃ ty, parseFieldDescriptor (T k).2.2.1 = some ty ∧ narrow ty v = v ∧ fits ty v = true) (hlen : k < vs.length)
    (kk : V G F Q kc ks (pc + 3) L st (hset h a (.inr (ci, vs.set k v)))) : V G F Q kc ks pc L (v :: .ref a :: st) h := by
  intro H locs ls cells slots hR hS hL hz h1 h2
  have hK := hF.K hG
  obtain ⟨hx, hb, hml, hr, hown, hlk, hW⟩ := id hF
  obtain ⟨C, T, N, hcl, hk, hlnk⟩ := hl
  obtain ⟨c1, ⟨ty0, c2⟩, c3⟩ := cls_ok hcl
  have hts : ∀ w ∈ u_ws C T N, w.before (fA F) (fS F) = true := fun w hw => hF.wd hG (c1 w hw).1 (c1 w hw).2
  obtain ⟨hfin, ty, hp, hn, hfit⟩ := hty C T N hcl
  have hap := va_apart (own := own) hts (fun _ h => h) ty0 c2 c3 hK hcl
  obtain ⟨hge, r, q0, cell, q1, q2, q3, q4⟩ := hR a _ hc
  have hr' : r = (C, T, N) := Option.some.inj (q0.symm.trans hcl)
  subst hr'
  obtain ⟨hSl, hfc, kC, hkC, hkind⟩ := hK.1 ci _ hcl
  obtain ⟨cf, kf, fi, f, hi, hsl⟩ := hSl k hk
  have hlay := hts _ (u_in_lay hk)
  unfold u_lay at hlay
  rw [if_neg (by rw [hfin]; decide)] at hlay
  have hst := (u_facts hfc hkC (u_lays hts (fun _ h => h) hk) hi).1
  have h6 := u_store hfc hkC hkind hlay hi hp hn hfit
  have fin : ∀ H' : Heap, H'[a]? = some (cell.setSlot f.slot v) → H'.size = H.size → (∀ q, q ≠ a → H'[q]? = H[q]?) → VW G F Q H' (locs ++ [⟨a, f.slot⟩]) cells slots (F0 (fM F) (pc + 3) ls st) := by
    intro H' e1 e2 e3
    rw [hsl] at e1 ⊢
    refine kk H' _ ls cells slots (hR.store hge ?_ e3) (hS.put e2 e3 hge) hL hz h1 h2
    exact ⟨_, hcl, t_OB.to (V := updV (vp_V vs) k v) ⟨_, e1, q2, q3, t_set q4 hap hk v⟩ (fun j _ => vp_updV_set hlen v j)⟩
  rcases hlnk with hlnk | ⟨host, hlnk⟩
  · exact W.putK hx hb (f := f) ⟨hown, hF.wd hG hlnk rfl, ⟨_, _, _, hi⟩, hst⟩ (by rw [q2]; exact h6) q1 q3 (by rw [hsl]; exact k2_hasslot (q4 k hk)) rfl rfl hd fin
  · exact va_WputK hx hb (f := f) hown (hF.wd hG hlnk rfl) hi hst (by rw [q2]; exact h6) q1 q3 (by rw [hsl]; exact k2_hasslot (q4 k hk)) rfl rfl hd fin
/-- a final field, in its class's constructor -/
theorem V.putF (hG : GOk G) (hF : Ok G F own cc nL ret) {ix ci k a : Nat} {vs : List Value} {v : Value} (hl : lkFo own ix ci k) (hin : (fMe F).name = "<init>") (hd : decode cc pc = .ok (.putfield ix, 3)) (hc : h a = some (.inr (ci, vs)))
    (hty : ∀ C T N, vwCl[ci]? = some (C, T, N) → (T k).2.2.2 = true ∧ (T k).1 = own ∧ ∃ ty, parseFieldDescriptor (T k).2.2.1 = some ty ∧ narrow ty v = v ∧ fits ty v = true) (hlen : k < vs.length)
    (kk : V G F Q kc ks (pc + 3) L st (hset h a (.inr (ci, vs.set k v)))) : V G F Q kc ks pc L (v :: .ref a :: st) h := by
  intro H locs ls cells slots hR hS hL hz h1 h2
  have hK := hF.K hG
  obtain ⟨hx, hb, hml, hr, hown, hlk, hW⟩ := id hF
  obtain ⟨C, T, N, hcl, hk, hlnk⟩ := hl
  obtain ⟨c1, ⟨ty0, c2⟩, c3⟩ := cls_ok hcl
  have hts : ∀ w ∈ u_ws C T N, w.before (fA F) (fS F) = true := fun w hw => hF.wd hG (c1 w hw).1 (c1 w hw).2
  obtain ⟨hfin, hdecl, ty, hp, hn, hfit⟩ := hty C T N hcl
  have hap := va_apart (own := own) hts (fun _ h => h) ty0 c2 c3 hK hcl
  obtain ⟨hge, r, q0, cell, q1, q2, q3, q4⟩ := hR a _ hc
  have hr' : r = (C, T, N) := Option.some.inj (q0.symm.trans hcl)
  subst hr'
  obtain ⟨hSl, hfc, kC, hkC, hkind⟩ := hK.1 ci _ hcl
  obtain ⟨cf, kf, fi, f, hi, hsl⟩ := hSl k hk
  have hlay := hts _ (u_in_lay hk)
  unfold u_lay at hlay
  rw [if_pos hfin] at hlay
  have hst := (u_facts hfc hkC (u_lays hts (fun _ h => h) hk) hi).1
  have hcf : (fM F).cls = cf := by
    obtain ⟨_, _, c', _, _, _, -, -, hf', -, -, -, hown2, -⟩ := Cond.laysFinal_spec hlay
    have e1 : c' = cf := by have := hi.symm.trans hf'; simp at this; exact this.1.symm
    rw [hdecl] at hown2
    rw [← e1]; exact Option.some.inj (hown.symm.trans hown2)
  have h6 := u_fits hfc hkC hkind (Or.inr hlay) hi hp hn hfit
  refine W.putFinK hx hb hown (hF.wd hG hlnk rfl) hi hst hcf hin (by rw [q2]; exact h6) q1 q3 (by rw [hsl]; exact k2_hasslot (q4 k hk)) rfl rfl hd fun H' e1 e2 e3 => ?_
  rw [hsl] at e1 ⊢
  refine kk H' _ ls cells slots (hR.store hge ?_ e3) (hS.put e2 e3 hge) hL hz h1 h2
  exact ⟨_, hcl, t_OB.to (V := updV (vp_V vs) k v) ⟨_, e1, q2, q3, t_set q4 hap hk v⟩ (fun j _ => vp_updV_set hlen v j)⟩
-- arrays
theorem gAr (hG : GOk G) (hF : Ok G F own cc nL ret) {t : Nat} (ht : t < 5) : ArrOfT (fS F) (gA G t) (gTy t) ∧ va_RA (fS F) (gA G t) (gTy t) := by
  have hK := hF.K hG
  match t, ht with
  | 0, _ => exact hK.2 0 _ rfl
  | 1, _ => exact hK.2 1 _ rfl
  | 2, _ => exact hK.2 2 _ rfl
  | 3, _ => exact hK.2 3 _ rfl
  | 4, _ => exact hK.2 4 _ rfl
theorem V.iald (hG : GOk G) (hF : Ok G F own cc nL ret) {a n : Nat} {f : Nat → Int32} {i : Int32} (hd : decode cc pc = .ok (.iaload, 1)) (hc : h a = some (.inl (0, n, .inl f))) (hin : vp_in i n) (kk : V G F Q kc ks (pc + 1) L (.int (f i.toNatClampNeg) :: st) h) : V G F Q kc ks pc L (.int i :: .ref a :: st) h := by
  intro H locs ls cells slots hR hS hL hz h1 h2
  exact va_iald hF.1 hF.2.1 (hF.K hG) (hR.one hc) 0 0 rfl rfl hin hd (kk H locs ls cells slots hR hS hL hz h1 h2)
theorem V.zald (hG : GOk G) (hF : Ok G F own cc nL ret) {a n : Nat} {f : Nat → Int32} {i : Int32} (hd : decode cc pc = .ok (.baload, 1)) (hc : h a = some (.inl (1, n, .inl f))) (hin : vp_in i n) (kk : V G F Q kc ks (pc + 1) L (.int (f i.toNatClampNeg) :: st) h) : V G F Q kc ks pc L (.int i :: .ref a :: st) h := by
  intro H locs ls cells slots hR hS hL hz h1 h2
  exact va_zald hF.1 hF.2.1 (hF.K hG) (hR.one hc) 0 1 rfl rfl hin hd (kk H locs ls cells slots hR hS hL hz h1 h2)
theorem V.aald (hG : GOk G) (hF : Ok G F own cc nL ret) {a n t : Nat} {f : Nat → Option Nat} {i : Int32} (hd : decode cc pc = .ok (.aaload, 1)) (hc : h a = some (.inl (t, n, .inr (.inr (.inr (.inr f)))))) (hin : vp_in i n) (kk : V G F Q kc ks (pc + 1) L (va_rf (f i.toNatClampNeg) :: st) h) (ht : 2 ≤ t ∧ t < 5 := by decide) : V G F Q kc ks pc L (.int i :: .ref a :: st) h := by
  intro H locs ls cells slots hR hS hL hz h1 h2
  have hlt : i.toNatClampNeg < n := Nat.not_le.mp fun q => hin (Or.inr q)
  have hr : (gTy t).isReference = true := by
    rcases (show t = 2 ∨ t = 3 ∨ t = 4 by omega) with rfl | rfl | rfl <;> rfl
  exact W.aald (v := va_rf (f i.toNatClampNeg)) (ty := gTy t) hF.1 hF.2.1 (hR a _ hc).2 ((gAr hG hF (t := t) ht.2).1 n (fun j => va_rf (f j))) hr (fun q => by cases q) (by show ¬ (i < 0 ∨ (arrV _ _ _).slots.size ≤ _); rw [arrV_size]; exact hin) (by show (arrV _ _ _).slots[_]? = _; rw [arrV_read _ _ hlt]) rfl rfl hd (kk H locs ls cells slots hR hS hL hz h1 h2)
theorem V.alen (hG : GOk G) (hF : Ok G F own cc nL ret) {a k : Nat} {x : vp_A} (hd : decode cc pc = .ok (.arraylength, 1)) (hk : k < 5) (hc : h a = some (.inl (k, x))) (kk : V G F Q kc ks (pc + 1) L (.int (nI x.1) :: st) h) : V G F Q kc ks pc L (.ref a :: st) h := by
  intro H locs ls cells slots hR hS hL hz h1 h2
  exact va_alen hF.1 hF.2.1 (hF.K hG) (hR.one hc) 0 k rfl (ty := gTy k) (by match k, hk with
    | 0, _ => rfl
    | 1, _ => rfl
    | 2, _ => rfl
    | 3, _ => rfl
    | 4, _ => rfl) rfl hd (kk H locs ls cells slots hR hS hL hz h1 h2)
theorem V.iast (hG : GOk G) (hF : Ok G F own cc nL ret) {a n : Nat} {f : Nat → Int32} {i x : Int32} (hd : decode cc pc = .ok (.iastore, 1)) (hc : h a = some (.inl (0, n, .inl f))) (hin : vp_in i n) (kk : V G F Q kc ks (pc + 1) L st (hset h a (.inl (0, n, .inl (upd f i.toNatClampNeg x))))) : V G F Q kc ks pc L (.int x :: .int i :: .ref a :: st) h := by
  intro H locs ls cells slots hR hS hL hz h1 h2
  refine W.iast hF.1 hF.2.1 (hR a _ hc).2 ((gAr hG hF (t := 0) (by decide)).1 n (fun j => .int (f j))) (fun q => by cases q) (by show ¬ (i < 0 ∨ (arrV _ _ _).slots.size ≤ _); rw [arrV_size]; exact hin) rfl rfl hd fun H1 e z oq => ?_
  refine kk H1 _ ls cells slots (hR.store (hR a _ hc).1 ?_ oq) (hS.put z oq (hR a _ hc).1) hL hz h1 h2
  show H1[a]? = some (vp_cell _ _)
  rw [e, vp_cell_i]
  show some ((arrV _ n _).setSlot _ _) = _
  rw [arrV_store]
  show some (arrV (gA G 0) n (updV (fun j => .int (f j)) i.toNatClampNeg (.int x))) = some (arrV (gA G 0) n (fun j => .int (upd f i.toNatClampNeg x j)))
  refine congrArg some (congrArg (arrV (gA G 0) n) (funext fun q => ?_))
  by_cases hq : q = i.toNatClampNeg
  · subst hq
    simp [updV, upd]
  · simp [updV, upd, hq]
theorem V.zast (hG : GOk G) (hF : Ok G F own cc nL ret) {a n : Nat} {f : Nat → Int32} {i x : Int32} (hd : decode cc pc = .ok (.bastore, 1)) (hc : h a = some (.inl (1, n, .inl f))) (hin : vp_in i n) (hx : narrow .boolean (.int x) = .int x) (kk : V G F Q kc ks (pc + 1) L st (hset h a (.inl (1, n, .inl (upd f i.toNatClampNeg x))))) : V G F Q kc ks pc L (.int x :: .int i :: .ref a :: st) h := by
  intro H locs ls cells slots hR hS hL hz h1 h2
  refine W.zast hF.1 hF.2.1 (hR a _ hc).2 ((gAr hG hF (t := 1) (by decide)).1 n (fun j => .int (f j))) (fun q => by cases q) (by show ¬ (i < 0 ∨ (arrV _ _ _).slots.size ≤ _); rw [arrV_size]; exact hin) rfl rfl hd fun H1 e z oq => ?_
  refine kk H1 _ ls cells slots (hR.store (hR a _ hc).1 ?_ oq) (hS.put z oq (hR a _ hc).1) hL hz h1 h2
  show H1[a]? = some (vp_cell _ _)
  rw [e, vp_cell_i, hx]
  show some ((arrV _ n _).setSlot _ _) = _
  rw [arrV_store]
  show some (arrV (gA G 1) n (updV (fun j => .int (f j)) i.toNatClampNeg (.int x))) = some (arrV (gA G 1) n (fun j => .int (upd f i.toNatClampNeg x j)))
  refine congrArg some (congrArg (arrV (gA G 1) n) (funext fun q => ?_))
  by_cases hq : q = i.toNatClampNeg
  · subst hq
    simp [updV, upd]
  · simp [updV, upd, hq]
/-- an object of class ci into an array of Tablets -/
theorem V.aast (hG : GOk G) (hF : Ok G F own cc nL ret) {a n b ci : Nat} {f : Nat → Option Nat} {i : Int32} {vs : List Value} {T : u_T} {N : Nat} (hd : decode cc pc = .ok (.aastore, 1)) (hc : h a = some (.inl (3, n, .inr (.inr (.inr (.inr f)))))) (hb : h b = some (.inr (ci, vs))) (hcl : vwCl[ci]? = some ("TallyWax$Tablet", T, N)) (hin : vp_in i n) (kk : V G F Q kc ks (pc + 1) L st (hset h a (.inl (3, n, .inr (.inr (.inr (.inr (va_up f i.toNatClampNeg (some b)))))))) ) : V G F Q kc ks pc L (.ref b :: .int i :: .ref a :: st) h := by
  intro H locs ls cells slots hR hS hL hz h1 h2
  have hK := hF.K hG
  obtain ⟨h0, hlt⟩ : ¬ i < 0 ∧ i.toNatClampNeg < n := ⟨fun q => hin (Or.inl q), Nat.not_le.mp fun q => hin (Or.inr q)⟩
  obtain ⟨kA, comp, k1, k2, k3, -⟩ := (gAr hG hF (t := 3) (by decide)).2
  have hcls := (hK.1 ci _ hcl).2
  have hcomp : comp = (gD G).1 ci := Option.some.inj (k3.symm.trans hcls.1)
  subst hcomp
  obtain ⟨kC, hkC, -⟩ := hcls.2
  obtain ⟨hgb, r, q0, cell, g1, g2, g3, g4⟩ := hR b _ hb
  refine W.aast hF.1 hF.2.1 (hR a _ hc).2 (fun q h => by cases h) (fun h => by cases h) k1 k2 rfl hkC ⟨h0, by show _ < (arrV _ _ _).slots.size; rw [arrV_size]; exact hlt⟩ g1 (fun q h => by rw [g3] at h; cases h) (by rw [g2]; exact hkC) (by rw [g2]; exact va_assign hcls) rfl rfl hd fun H1 e z oq => ?_
  refine kk H1 _ ls cells slots (hR.store (hR a _ hc).1 ?_ oq) (hS.put z oq (hR a _ hc).1) hL hz h1 h2
  show H1[a]? = some (vp_cell _ _)
  rw [e, vp_cell_q]
  show some ((arrV _ n _).setSlot _ _) = _
  rw [arrV_store]
  show some (arrV (gA G 3) n (updV (fun j => va_rf (f j)) i.toNatClampNeg (.ref b))) = some (arrV (gA G 3) n (fun j => va_rf (va_up f i.toNatClampNeg (some b) j)))
  refine congrArg some (congrArg (arrV (gA G 3) n) (funext fun q => ?_))
  by_cases hq : q = i.toNatClampNeg
  · subst hq
    simp [updV, va_up, va_rf]
  · simp [updV, va_up, hq]
-- making
def lkC (own : String) (ix ci N : Nat) (fs : List Value) : Prop := ∃ (C : String) (T : u_T), vwCl[ci]? = some (C, T, N) ∧ Cond.classLink own ix C ∈ lw_tbl ∧ Cond.instantiable C N ∈ lw_tbl ∧ Cond.initialized C ∈ lw_tbl ∧ ∀ (ty0 : Nat → FieldType), (∀ k, k < N → parseFieldDescriptor (T k).2.2.1 = some (ty0 k)) → ∀ j, j < N → defaultValue (ty0 j) = vp_V fs j
theorem V.new (hG : GOk G) (hF : Ok G F own cc nL ret) {ix ci N : Nat} {fs : List Value} (hl : lkC own ix ci N fs) (hd : decode cc pc = .ok (.new ix, 3)) (kk : ∀ q : Nat, h q = none → V G F Q kc ks (pc + 3) L (.ref q :: st) (hset h q (.inr (ci, fs)))) : V G F Q (kc + 1) (ks + N) pc L st h := by
  intro H locs ls cells slots hR hS hL hz h1 h2
  have hK := hF.K hG
  obtain ⟨hx, hb, hml, hr, hown, hlk, hW⟩ := id hF
  obtain ⟨C, T, hcl, w1, w2, w3, hfs⟩ := hl
  obtain ⟨c1, ⟨ty0, c2⟩, c3⟩ := cls_ok hcl
  have hts : ∀ w ∈ u_ws C T N, w.before (fA F) (fS F) = true := fun w hw => hF.wd hG (c1 w hw).1 (c1 w hw).2
  have hKn := hK.1 ci _ hcl
  refine W.newcK hx hb hown (hF.wd hG w1 rfl) (hF.wd hG w2 rfl) (hF.wd hG w3 rfl) rfl hd (by omega) (by omega) hKn.2.1 rfl fun H1 kC hkC e1 z1 o1 => ?_
  have hge : gN G ≤ H.size := Nat.le_trans hW.2.1 hS.1
  refine kk H.size hR.fresh H1 locs ls (cells + 1) (slots + N) ?_ ⟨Nat.le_trans hS.1 (by omega), fun x h1 h2 => (o1 x (Nat.lt_of_lt_of_le h1 hS.1)).trans (hS.2.1 x h1 h2), hS.2.2⟩ hL hz (by omega) (by omega)
  intro b d hbd
  by_cases hbH : b = H.size
  · subst hbH
    rw [hset_eq] at hbd
    cases hbd
    exact ⟨hge, _, hcl, (u_born ty0 hts (fun _ h => h) hKn hkC e1 c2).to (hfs ty0 c2)⟩
  · rw [hset_ne hbH] at hbd
    exact ⟨(hR b d hbd).1, (hR b d hbd).2.kept (o1 b (hR b d hbd).2.lt)⟩
theorem ra_prim {U : State} {cA : ClassId} {t : Nat} (ht : t < 3) (h : va_RA U cA (gTy t)) : U.vm.findClass ("[" ++ (gTy t).toString) = some cA := by
  rcases (show t = 0 ∨ t = 1 ∨ t = 2 by omega) with rfl | rfl | rfl
  · exact (show va_RA U cA .int from h)
  · exact (show va_RA U cA .boolean from h)
  · exact (show va_RA U cA (.array .int) from h)
theorem V.newa (hG : GOk G) (hF : Ok G F own cc nL ret) {aty : ArrayType} {t N : Nat} {n : Int32} {a0 : vp_A} (ht : t < 3) (hty : newarray.typeOf aty = gTy t) (hw : Cond.arrayClass (gTy t) ∈ lw_tbl) (hd : decode cc pc = .ok (.newarray aty, 2)) (hn : ¬ n < 0) (hN : n.toNatClampNeg = N) (hby : N * componentBytes (gTy t) ≤ 536870912) (ha : ∀ cA : ClassId, vp_cell cA a0 = arrV cA N (fun _ => defaultValue (gTy t)))
    (kk : ∀ q : Nat, h q = none → V G F Q kc ks (pc + 2) L (.ref q :: st) (hset h q (.inl (t, a0)))) : V G F Q (kc + 1) (ks + N) pc L (.int n :: st) h := by
  intro H locs ls cells slots hR hS hL hz h1 h2
  obtain ⟨hx, hb, hml, hr, hown, hlk, hW⟩ := id hF
  have hRA := ra_prim ht (gAr hG hF (t := t) (by omega)).2
  have hge : gN G ≤ H.size := Nat.le_trans hW.2.1 hS.1
  refine va_newaK hx hb (by rw [hty]; exact hF.wd hG hw rfl) rfl hd rfl hn hN (by rw [hty]; exact hby) (by omega) (by omega) rfl fun H1 cA e1 z1 o1 hAr hNm => ?_
  rw [hty] at e1 hNm
  have hcA : cA = gA G t := Option.some.inj (hNm.symm.trans hRA)
  subst hcA
  refine kk H.size hR.fresh H1 locs ls (cells + 1) (slots + N) ?_ ⟨Nat.le_trans hS.1 (by omega), fun x h1 h2 => (o1 x (Nat.lt_of_lt_of_le h1 hS.1)).trans (hS.2.1 x h1 h2), hS.2.2⟩ hL hz (by omega) (by omega)
  intro b d hbd
  by_cases hbH : b = H.size
  · subst hbH
    rw [hset_eq] at hbd
    cases hbd
    refine ⟨hge, ?_⟩
    show H1[H.size]? = some (vp_cell _ _)
    rw [ha]
    exact e1
  · rw [hset_ne hbH] at hbd
    exact ⟨(hR b d hbd).1, (hR b d hbd).2.kept (o1 b (hR b d hbd).2.lt)⟩
/-- an array of Tablets -/
theorem V.newq (hG : GOk G) (hF : Ok G F own cc nL ret) {ix N : Nat} {n : Int32} (w1 : Cond.classLink own ix "TallyWax$Tablet" ∈ lw_tbl) (w2 : Cond.arrayOver (.object "TallyWax$Tablet") ∈ lw_tbl) (hd : decode cc pc = .ok (.anewarray ix, 3)) (hn : ¬ n < 0) (hN : n.toNatClampNeg = N) (hby : N * 4 ≤ 536870912)
    (kk : ∀ q : Nat, h q = none → V G F Q kc ks (pc + 3) L (.ref q :: st) (hset h q (.inl (3, N, .inr (.inr (.inr (.inr (fun _ => none)))))))) : V G F Q (kc + 1) (ks + N) pc L (.int n :: st) h := by
  intro H locs ls cells slots hR hS hL hz h1 h2
  obtain ⟨hx, hb, hml, hr, hown, hlk, hW⟩ := id hF
  obtain ⟨kA0, comp0, k1, k2', k3, k4⟩ := (gAr hG hF (t := 3) (by decide)).2
  have hge : gN G ≤ H.size := Nat.le_trans hW.2.1 hS.1
  subst hN
  refine W.anew hx hb hown (hF.wd hG w1 rfl) (va_AO.use (va_AO.moved (State.WarmedH.alike hW.1) (va_AO.of (hG.2.1 _ w2)))) rfl hd rfl hn hby (by omega) (by omega) fun cA kA comp f1 f2 f3 f4 => ?_
  have hcA : cA = gA G 3 := Option.some.inj (f1.symm.trans k4)
  subst hcA
  generalize hH1 : H.push ({ cls := gA G 3, slots := Array.replicate n.toNatClampNeg .null, vm := .none } : Cell) = H1
  have z1 : H1.size = H.size + 1 := by rw [← hH1, Array.size_push]
  have e1 : H1[H.size]? = some (arrV (gA G 3) n.toNatClampNeg (fun _ => .null)) := by rw [← hH1, Array.getElem?_push_size, ← arrV_new]
  have o1 : ∀ q : Nat, q < H.size → H1[q]? = H[q]? := fun q hq => by rw [← hH1, Array.getElem?_push, if_neg (Nat.ne_of_lt hq)]
  refine kk H.size hR.fresh H1 locs ls (cells + 1) (slots + n.toNatClampNeg) ?_ ⟨Nat.le_trans hS.1 (by omega), fun x h1 h2 => (o1 x (Nat.lt_of_lt_of_le h1 hS.1)).trans (hS.2.1 x h1 h2), hS.2.2⟩ hL hz (by omega) (by omega)
  intro b d hbd
  by_cases hbH : b = H.size
  · subst hbH
    rw [hset_eq] at hbd
    cases hbd
    refine ⟨hge, ?_⟩
    show H1[H.size]? = some (vp_cell _ _)
    rw [e1]
    rfl
  · rw [hset_ne hbH] at hbd
    exact ⟨(hR b d hbd).1, (hR b d hbd).2.kept (o1 b (hR b d hbd).2.lt)⟩
end M1
end
section
/-! ===== contracts, branches, calls, answers ===== -/
def cQ (G : Gt) (po : Option Value → Hp → Prop) : Array Value → State → Outcome → State → Prop := fun _ st o t => ∃ (v : Option Value) (h' : Hp), o = .returned v ∧ po v h' ∧ Rp G h' t.heap ∧ va_F (gF G) st t
def cX (G : Gt) (px : String → Hp → Prop) : String → State → State → Prop := fun E st t => ∃ h' : Hp, px E h' ∧ Rp G h' t.heap ∧ va_F (gF G) st t
def cP (G : Gt) (As : List Value) (h : Hp) : Array Value → State → Prop := fun v U => v = As.toArray ∧ St G U ∧ Rp G h U.heap
/-- method y, called with As in the heap h, answers as po says, or throws as px says -/
def Ct (G : Gt) (y : MethodName) (w : Cond) (rf rl mc ms : Nat) (As : List Value) (h : Hp) (po : Option Value → Hp → Prop) (px : String → Hp → Prop) : Prop :=
  vx_Met G.1 y [w] { frames := rf, cells := mc, slots := ms, locals := rl } (cP G As h) (cQ G po) (cX G px) mc ms (gF G)
theorem cP_blind {G : Gt} {As : List Value} {h : Hp} : FrameBlind (cP G As h) := fun _ _ _ _ q => q
abbrev pxN : String → Hp → Prop := fun _ _ => False
def fin (G : Gt) (F : Ft) (po : Option Value → Hp → Prop) (px : String → Hp → Prop) : State → Prop := vx_MQ (fB F) (cQ G po) (cX G px) (fA F) (fS F) (fR F).cells (fR F).slots (gF G)
def entL (n : Nat) (As : List Value) : List (Option Value) := (lg_sl As ++ List.replicate (n - (lg_sl As).length) Slot.unset).map (fun s => match s with
  | .val v => some v
  | _ => none)
theorem entL_LR {n : Nat} {As : List Value} (h : (lg_sl As).length ≤ n) : LR ((lg_sl As ++ List.replicate (n - (lg_sl As).length) Slot.unset).toArray) (entL n As) := by
  refine ⟨(lv_entry As h).2.1, fun i v hv => ?_⟩
  unfold entL at hv
  rw [List.getElem?_map] at hv
  cases hs : (lg_sl As ++ List.replicate (n - (lg_sl As).length) Slot.unset)[i]? with
  | none => rw [hs] at hv; cases hv
  | some s =>
    rw [hs] at hv
    cases s with
    | val w => cases hv; simpa using hs
    | _ => cases hv
theorem entL_sz {n : Nat} {As : List Value} (h : (lg_sl As).length ≤ n) : ((lg_sl As ++ List.replicate (n - (lg_sl As).length) Slot.unset).toArray).size = n := (lv_entry As h).1
theorem Ct.of {G : Gt} {y : MethodName} {cc : ByteArray} {nL rf rl mc ms : Nat} {re : Option FieldType} {As : List Value} {h : Hp} {po : Option Value → Hp → Prop} {px : String → Hp → Prop} (hy : plainName y.cls = true) (hlen : (lg_sl As).length ≤ nL)
    (body : ∀ F : Ft, Ok G F y.cls cc nL re → NoTab F → (fMe F).name = y.name → fR F = { frames := rf, cells := mc, slots := ms, locals := rl } → V G F (fin G F po px) mc ms 0 (entL nL As) [] h) : Ct G y (.code y cc nL re) rf rl mc ms As h po px := by
  refine vx_ofW (cc := cc) (maxL := nL) (ret := re) hy rfl ?_
  intro p e s m args below meth c s₁ B hml ht hP
  obtain ⟨rfl, hst, hR⟩ := hP
  have k := body (p, e, { frames := rf, cells := mc, slots := ms, locals := rl }, s, m, As.toArray, below, meth, c) ⟨B.exec, B.bytes, hml, B.returns, findClass_of_methodNamed B.named, B.notSynchronized, hst⟩ ht (name_of_methodNamed B.named B.method).1 rfl
  rw [lg_entry_eq]
  exact k s.heap [] _ 0 0 hR va_S.rf (entL_LR hlen) ((entL_sz hlen).trans hml.symm) (Nat.le_of_eq (Nat.zero_add _)) (Nat.le_of_eq (Nat.zero_add _))
/-- .. of a method with handlers -/
theorem Ct.ofH {G : Gt} {y : MethodName} {cc : ByteArray} {nL rf rl mc ms : Nat} {re : Option FieldType} {hh : List (Nat × Nat × Nat × Nat)} {As : List Value} {h : Hp} {po : Option Value → Hp → Prop} {px : String → Hp → Prop} (hy : plainName y.cls = true) (hlen : (lg_sl As).length ≤ nL)
    (body : ∀ F : Ft, Ok G F y.cls cc nL re → (fC F).exceptionTable.toList = tableOf hh → fR F = { frames := rf, cells := mc, slots := ms, locals := rl } → V G F (fin G F po px) mc ms 0 (entL nL As) [] h) : Ct G y (.codeWith y cc nL re hh) rf rl mc ms As h po px := by
  refine vx_ofWH (cc := cc) (maxL := nL) (ret := re) (hh := hh) hy rfl ?_
  intro p e s m args below meth c s₁ B hml hP
  obtain ⟨rfl, hst, hR⟩ := hP
  have k := body (p, e, { frames := rf, cells := mc, slots := ms, locals := rl }, s, m, As.toArray, below, meth, c) ⟨B.exec, B.bytes, hml, B.returns, findClass_of_methodNamed B.named, B.notSynchronized, hst⟩ (vx_table (x := y) B (atoms_spec (ws := [Cond.codeWith y cc nL re hh]) B.pre _ List.mem_cons_self)) rfl
  rw [lg_entry_eq]
  exact k s.heap [] _ 0 0 hR va_S.rf (entL_LR hlen) ((entL_sz hlen).trans hml.symm) (Nat.le_of_eq (Nat.zero_add _)) (Nat.le_of_eq (Nat.zero_add _))
/-- a contract that throws nothing, as the kit's plain one -/
theorem Ct.met {G : Gt} {y : MethodName} {w : Cond} {rf rl mc ms : Nat} {As : List Value} {h : Hp} {po : Option Value → Hp → Prop} (hM : Ct G y w rf rl mc ms As h po pxN) : Met G.1 y [w] { frames := rf, cells := mc, slots := ms, locals := rl } (cP G As h) (cQ G po) mc ms (gF G) := by
  intro p e ha hc hk s m args below hf hap hP hK
  obtain ⟨n, o, h1, h2, h3, h4⟩ := hM p e ha hc hk s m args below hf hap hP hK
  refine ⟨n, o, h1, h2, h3, ?_⟩
  rcases h4 with h4 | ⟨q, -, E, ce, L, ⟨h', hx, -⟩, -⟩
  · exact h4
  · exact hx.elim
section C1
variable {G : Gt} {F : Ft} {Q : State → Prop} {own : String} {cc : ByteArray} {nL : Nat} {ret : Option FieldType} {kc ks pc : Nat} {L : List (Option Value)} {st stk : List Value} {h : Hp} {po : Option Value → Hp → Prop} {px : String → Hp → Prop}
theorem V.if_eq (hF : Ok G F own cc nL ret) {x : Int32} {off : Int} {tgt : Nat} (hd : decode cc pc = .ok (.ifCond .eq off, 3)) (ht : (pc : Int) + off = (tgt : Int)) (kt : x = 0 → V G F Q kc ks tgt L st h) (kf : ¬ x = 0 → V G F Q kc ks (pc + 3) L st h) : V G F Q kc ks pc L (.int x :: st) h :=
  fun H locs ls cells slots hR hS hL hz h1 h2 => lv_if_eq hF.1 hF.2.1 hd ht (fun q => kt q H locs ls cells slots hR hS hL hz h1 h2) (fun q => kf q H locs ls cells slots hR hS hL hz h1 h2)
theorem V.if_ne (hF : Ok G F own cc nL ret) {x : Int32} {off : Int} {tgt : Nat} (hd : decode cc pc = .ok (.ifCond .ne off, 3)) (ht : (pc : Int) + off = (tgt : Int)) (kt : ¬ x = 0 → V G F Q kc ks tgt L st h) (kf : x = 0 → V G F Q kc ks (pc + 3) L st h) : V G F Q kc ks pc L (.int x :: st) h :=
  fun H locs ls cells slots hR hS hL hz h1 h2 => lv_if_ne hF.1 hF.2.1 hd ht (fun q => kt q H locs ls cells slots hR hS hL hz h1 h2) (fun q => kf q H locs ls cells slots hR hS hL hz h1 h2)
theorem V.if_lt (hF : Ok G F own cc nL ret) {x : Int32} {off : Int} {tgt : Nat} (hd : decode cc pc = .ok (.ifCond .lt off, 3)) (ht : (pc : Int) + off = (tgt : Int)) (kt : x < 0 → V G F Q kc ks tgt L st h) (kf : ¬ x < 0 → V G F Q kc ks (pc + 3) L st h) : V G F Q kc ks pc L (.int x :: st) h :=
  fun H locs ls cells slots hR hS hL hz h1 h2 => lv_if_lt hF.1 hF.2.1 hd ht (fun q => kt q H locs ls cells slots hR hS hL hz h1 h2) (fun q => kf q H locs ls cells slots hR hS hL hz h1 h2)
theorem V.if_ge (hF : Ok G F own cc nL ret) {x : Int32} {off : Int} {tgt : Nat} (hd : decode cc pc = .ok (.ifCond .ge off, 3)) (ht : (pc : Int) + off = (tgt : Int)) (kt : 0 ≤ x → V G F Q kc ks tgt L st h) (kf : ¬ 0 ≤ x → V G F Q kc ks (pc + 3) L st h) : V G F Q kc ks pc L (.int x :: st) h :=
  fun H locs ls cells slots hR hS hL hz h1 h2 => lv_if_ge hF.1 hF.2.1 hd ht (fun q => kt q H locs ls cells slots hR hS hL hz h1 h2) (fun q => kf q H locs ls cells slots hR hS hL hz h1 h2)
theorem V.if_gt (hF : Ok G F own cc nL ret) {x : Int32} {off : Int} {tgt : Nat} (hd : decode cc pc = .ok (.ifCond .gt off, 3)) (ht : (pc : Int) + off = (tgt : Int)) (kt : 0 < x → V G F Q kc ks tgt L st h) (kf : ¬ 0 < x → V G F Q kc ks (pc + 3) L st h) : V G F Q kc ks pc L (.int x :: st) h :=
  fun H locs ls cells slots hR hS hL hz h1 h2 => lv_if_gt hF.1 hF.2.1 hd ht (fun q => kt q H locs ls cells slots hR hS hL hz h1 h2) (fun q => kf q H locs ls cells slots hR hS hL hz h1 h2)
theorem V.if_le (hF : Ok G F own cc nL ret) {x : Int32} {off : Int} {tgt : Nat} (hd : decode cc pc = .ok (.ifCond .le off, 3)) (ht : (pc : Int) + off = (tgt : Int)) (kt : x ≤ 0 → V G F Q kc ks tgt L st h) (kf : ¬ x ≤ 0 → V G F Q kc ks (pc + 3) L st h) : V G F Q kc ks pc L (.int x :: st) h :=
  fun H locs ls cells slots hR hS hL hz h1 h2 => lv_if_le hF.1 hF.2.1 hd ht (fun q => kt q H locs ls cells slots hR hS hL hz h1 h2) (fun q => kf q H locs ls cells slots hR hS hL hz h1 h2)
theorem V.icmp_eq (hF : Ok G F own cc nL ret) {x y : Int32} {off : Int} {tgt : Nat} (hd : decode cc pc = .ok (.if_icmp .eq off, 3)) (ht : (pc : Int) + off = (tgt : Int)) (kt : x = y → V G F Q kc ks tgt L st h) (kf : ¬ x = y → V G F Q kc ks (pc + 3) L st h) : V G F Q kc ks pc L (.int y :: .int x :: st) h :=
  fun H locs ls cells slots hR hS hL hz h1 h2 => lv_icmp_eq hF.1 hF.2.1 hd ht (fun q => kt q H locs ls cells slots hR hS hL hz h1 h2) (fun q => kf q H locs ls cells slots hR hS hL hz h1 h2)
theorem V.icmp_ne (hF : Ok G F own cc nL ret) {x y : Int32} {off : Int} {tgt : Nat} (hd : decode cc pc = .ok (.if_icmp .ne off, 3)) (ht : (pc : Int) + off = (tgt : Int)) (kt : ¬ x = y → V G F Q kc ks tgt L st h) (kf : x = y → V G F Q kc ks (pc + 3) L st h) : V G F Q kc ks pc L (.int y :: .int x :: st) h :=
  fun H locs ls cells slots hR hS hL hz h1 h2 => lv_icmp_ne hF.1 hF.2.1 hd ht (fun q => kt q H locs ls cells slots hR hS hL hz h1 h2) (fun q => kf q H locs ls cells slots hR hS hL hz h1 h2)
theorem V.icmp_lt (hF : Ok G F own cc nL ret) {x y : Int32} {off : Int} {tgt : Nat} (hd : decode cc pc = .ok (.if_icmp .lt off, 3)) (ht : (pc : Int) + off = (tgt : Int)) (kt : x < y → V G F Q kc ks tgt L st h) (kf : ¬ x < y → V G F Q kc ks (pc + 3) L st h) : V G F Q kc ks pc L (.int y :: .int x :: st) h :=
  fun H locs ls cells slots hR hS hL hz h1 h2 => lv_icmp_lt hF.1 hF.2.1 hd ht (fun q => kt q H locs ls cells slots hR hS hL hz h1 h2) (fun q => kf q H locs ls cells slots hR hS hL hz h1 h2)
theorem V.icmp_ge (hF : Ok G F own cc nL ret) {x y : Int32} {off : Int} {tgt : Nat} (hd : decode cc pc = .ok (.if_icmp .ge off, 3)) (ht : (pc : Int) + off = (tgt : Int)) (kt : y ≤ x → V G F Q kc ks tgt L st h) (kf : ¬ y ≤ x → V G F Q kc ks (pc + 3) L st h) : V G F Q kc ks pc L (.int y :: .int x :: st) h :=
  fun H locs ls cells slots hR hS hL hz h1 h2 => lv_icmp_ge hF.1 hF.2.1 hd ht (fun q => kt q H locs ls cells slots hR hS hL hz h1 h2) (fun q => kf q H locs ls cells slots hR hS hL hz h1 h2)
theorem V.icmp_gt (hF : Ok G F own cc nL ret) {x y : Int32} {off : Int} {tgt : Nat} (hd : decode cc pc = .ok (.if_icmp .gt off, 3)) (ht : (pc : Int) + off = (tgt : Int)) (kt : y < x → V G F Q kc ks tgt L st h) (kf : ¬ y < x → V G F Q kc ks (pc + 3) L st h) : V G F Q kc ks pc L (.int y :: .int x :: st) h :=
  fun H locs ls cells slots hR hS hL hz h1 h2 => lv_icmp_gt hF.1 hF.2.1 hd ht (fun q => kt q H locs ls cells slots hR hS hL hz h1 h2) (fun q => kf q H locs ls cells slots hR hS hL hz h1 h2)
theorem V.icmp_le (hF : Ok G F own cc nL ret) {x y : Int32} {off : Int} {tgt : Nat} (hd : decode cc pc = .ok (.if_icmp .le off, 3)) (ht : (pc : Int) + off = (tgt : Int)) (kt : x ≤ y → V G F Q kc ks tgt L st h) (kf : ¬ x ≤ y → V G F Q kc ks (pc + 3) L st h) : V G F Q kc ks pc L (.int y :: .int x :: st) h :=
  fun H locs ls cells slots hR hS hL hz h1 h2 => lv_icmp_le hF.1 hF.2.1 hd ht (fun q => kt q H locs ls cells slots hR hS hL hz h1 h2) (fun q => kf q H locs ls cells slots hR hS hL hz h1 h2)
/-- ifnull on a stored reference: both ways -/
theorem V.ifnull (hF : Ok G F own cc nL ret) {r : Option Nat} {off : Int} {tgt : Nat} (hd : decode cc pc = .ok (.ifnull off, 3)) (ht : (pc : Int) + off = (tgt : Int)) (kt : r = none → V G F Q kc ks tgt L st h) (kf : ∀ a, r = some a → V G F Q kc ks (pc + 3) L st h) : V G F Q kc ks pc L (va_rf r :: st) h := by
  intro H locs ls cells slots hR hS hL hz h1 h2
  cases r with
  | none => exact lv_ifnullN hF.1 hF.2.1 hd ht (kt rfl H locs ls cells slots hR hS hL hz h1 h2)
  | some a => exact lv_ifnull hF.1 hF.2.1 hd (kf a rfl H locs ls cells slots hR hS hL hz h1 h2)
theorem V.ifnonnull (hF : Ok G F own cc nL ret) {r : Option Nat} {off : Int} {tgt : Nat} (hd : decode cc pc = .ok (.ifnonnull off, 3)) (ht : (pc : Int) + off = (tgt : Int)) (kt : ∀ a, r = some a → V G F Q kc ks tgt L st h) (kf : r = none → V G F Q kc ks (pc + 3) L st h) : V G F Q kc ks pc L (va_rf r :: st) h := by
  intro H locs ls cells slots hR hS hL hz h1 h2
  cases r with
  | none => exact lv_ifnonnullN hF.1 hF.2.1 hd (kf rfl H locs ls cells slots hR hS hL hz h1 h2)
  | some a => exact lv_ifnonnull hF.1 hF.2.1 hd ht (kt a rfl H locs ls cells slots hR hS hL hz h1 h2)
theorem V.irem (hF : Ok G F own cc nL ret) {x y : Int32} (hd : decode cc pc = .ok (.irem, 1)) (hy : ¬ y = 0) (kk : V G F Q kc ks (pc + 1) L (.int (x - x / y * y) :: st) h) : V G F Q kc ks pc L (.int y :: .int x :: st) h :=
  fun H locs ls cells slots hR hS hL hz h1 h2 => lv_irem hF.1 hF.2.1 hd hy (kk H locs ls cells slots hR hS hL hz h1 h2)
theorem V.ddiv (hF : Ok G F own cc nL ret) {x y : UInt64} (hd : decode cc pc = .ok (.ddiv, 1)) (hy : vf_n64 (FP.ddiv x y)) (kk : V G F Q kc ks (pc + 1) L (.double (FP.ddiv x y) :: st) h) : V G F Q kc ks pc L (.double y :: .double x :: st) h :=
  fun H locs ls cells slots hR hS hL hz h1 h2 => lv_ddiv hF.1 hF.2.1 hd hy (kk H locs ls cells slots hR hS hL hz h1 h2)
theorem V.dconst0 (hF : Ok G F own cc nL ret) (hd : decode cc pc = .ok (.dconst 0, 1)) (kk : V G F Q kc ks (pc + 1) L (.double 0 :: st) h) : V G F Q kc ks pc L st h :=
  fun H locs ls cells slots hR hS hL hz h1 h2 => lv_dconst0 hF.1 hF.2.1 hd (kk H locs ls cells slots hR hS hL hz h1 h2)
theorem V.ldc (hG : GOk G) (hF : Ok G F own cc nL ret) {ix : Nat} {v : Int32} (hw : Cond.constant own ix v ∈ lw_tbl ∧ kw (Cond.constant own ix v) = true) (hd : decode cc pc = .ok (.ldc ix, 2)) (kk : V G F Q kc ks (pc + 2) L (.int v :: st) h) : V G F Q kc ks pc L st h :=
  fun H locs ls cells slots hR hS hL hz h1 h2 => lv_ldc hF.1 hF.2.1 hF.2.2.2.2.1 (hF.wd hG hw.1 hw.2) hd (kk H locs ls cells slots hR hS hL hz h1 h2)
theorem V.ldc2 (hG : GOk G) (hF : Ok G F own cc nL ret) {ix : Nat} {v : Int64} (hw : Cond.constantLong own ix v ∈ lw_tbl ∧ kw (Cond.constantLong own ix v) = true) (hd : decode cc pc = .ok (.ldc2_w ix, 3)) (kk : V G F Q kc ks (pc + 3) L (.long v :: st) h) : V G F Q kc ks pc L st h :=
  fun H locs ls cells slots hR hS hL hz h1 h2 => lv_ldc2 hF.1 hF.2.1 hF.2.2.2.2.1 (hF.wd hG hw.1 hw.2) hd (kk H locs ls cells slots hR hS hL hz h1 h2)
-- answers
theorem V.reti (hF : Ok G F own cc nL (some .int)) {v : Int32} (hd : decode cc pc = .ok (.ireturn, 1)) (hp : po (some (.int v)) h) : V G F (fin G F po px) kc ks pc L [.int v] h := by
  intro H locs ls cells slots hR hS hL hz h1 h2
  refine vx_ret (W.widen (k := (fR F).cells) (n := (fR F).slots) (by omega) (by omega) ?_)
  exact W.iret hF.1 hF.2.1 hF.2.2.2.1 (fun t ht hW => ⟨_, h, rfl, hp, by rw [ht]; exact hR, hS.F ht⟩) hS.2.2 hd hF.2.2.2.2.2.1
theorem V.retz (hF : Ok G F own cc nL (some .boolean)) {v : Int32} (hd : decode cc pc = .ok (.ireturn, 1)) (hn : narrow .boolean (.int v) = .int v) (hp : po (some (.int v)) h) : V G F (fin G F po px) kc ks pc L [.int v] h := by
  intro H locs ls cells slots hR hS hL hz h1 h2
  refine vx_ret (W.widen (k := (fR F).cells) (n := (fR F).slots) (by omega) (by omega) ?_)
  exact W.zret hF.1 hF.2.1 hF.2.2.2.1 hn (fun t ht hW => ⟨_, h, rfl, hp, by rw [ht]; exact hR, hS.F ht⟩) hS.2.2 hd hF.2.2.2.2.2.1
theorem V.retl (hF : Ok G F own cc nL (some .long)) {v : Int64} (hd : decode cc pc = .ok (.lreturn, 1)) (hp : po (some (.long v)) h) : V G F (fin G F po px) kc ks pc L [.long v] h := by
  intro H locs ls cells slots hR hS hL hz h1 h2
  refine vx_ret (W.widen (k := (fR F).cells) (n := (fR F).slots) (by omega) (by omega) ?_)
  exact W.lret hF.1 hF.2.1 hF.2.2.2.1 (fun t ht hW => ⟨_, h, rfl, hp, by rw [ht]; exact hR, hS.F ht⟩) hS.2.2 hd hF.2.2.2.2.2.1
theorem V.retd (hF : Ok G F own cc nL (some .double)) {v : UInt64} (hd : decode cc pc = .ok (.dreturn, 1)) (hp : po (some (.double v)) h) : V G F (fin G F po px) kc ks pc L [.double v] h := by
  intro H locs ls cells slots hR hS hL hz h1 h2
  refine vx_ret (W.widen (k := (fR F).cells) (n := (fR F).slots) (by omega) (by omega) ?_)
  exact W.dret hF.1 hF.2.1 hF.2.2.2.1 (fun t ht hW => ⟨_, h, rfl, hp, by rw [ht]; exact hR, hS.F ht⟩) hS.2.2 hd hF.2.2.2.2.2.1
theorem V.reta {C : String} (hF : Ok G F own cc nL (some (.object C))) {a : Nat} (hd : decode cc pc = .ok (.areturn, 1)) (hp : po (some (.ref a)) h) : V G F (fin G F po px) kc ks pc L [.ref a] h := by
  intro H locs ls cells slots hR hS hL hz h1 h2
  refine vx_ret (W.widen (k := (fR F).cells) (n := (fR F).slots) (by omega) (by omega) ?_)
  exact W.aret hF.1 hF.2.1 hF.2.2.2.1 (Or.inl ⟨_, rfl⟩) (Or.inr ⟨_, rfl⟩) (fun t ht hW => ⟨_, h, rfl, hp, by rw [ht]; exact hR, hS.F ht⟩) hS.2.2 hd hF.2.2.2.2.2.1
theorem V.retv (hF : Ok G F own cc nL none) (hd : decode cc pc = .ok (.return_, 1)) (hp : po none h) : V G F (fin G F po px) kc ks pc L [] h := by
  intro H locs ls cells slots hR hS hL hz h1 h2
  refine vx_ret (W.widen (k := (fR F).cells) (n := (fR F).slots) (by omega) (by omega) ?_)
  exact W.vret hF.1 hF.2.1 hF.2.2.2.1 (fun t ht hW => ⟨_, h, rfl, hp, by rw [ht]; exact hR, hS.F ht⟩) hS.2.2 hd hF.2.2.2.2.2.1
theorem VX.out (hF : Ok G F own cc nL ret) (hT : NoTab F) {E : String} (hp : px E h) : VX G F (fin G F po px) kc ks pc L E h := by
  intro H locs ls rest cells slots q ce hR hS hL hz h1 h2 hce hcv hcl
  exact vx_out (fun x hx => (hT x hx).elim) hF.2.2.2.2.2.1 hce hcv hcl (fun t ht hW => ⟨h, hp, by rw [ht]; exact hR, hS.F ht⟩) hS.2.2 (by omega) (by omega)
-- calls
def tw (w : Cond) : Prop := w ∈ lw_tbl ∧ kw w = true
def okn1 (y : MethodName) (n : Nat) : Prop := (y.cls ≠ "java/lang/invoke/MethodHandle" ∧ y.cls ≠ "java/lang/invoke/VarHandle") ∧ (parseMethodDescriptor y.desc).map (fun d => d.parameters.length) = some n
theorem okn1.len {y : MethodName} {n : Nat} (h : okn1 y n) : ∀ sig, parseMethodDescriptor y.desc = some sig → n = sig.parameters.length := by
  intro sig hs
  have h2 := h.2
  rw [hs] at h2
  exact (Option.some.inj h2).symm
theorem one_word (hG : GOk G) (hF : Ok G F own cc nL ret) {w : Cond} (hw : w ∈ lw_tbl) (hg : goodWord w = true) : ∀ w' ∈ [w], ∀ (a' : Array Value) (U : State), (fS F).WarmedH U.vm → w'.before a' U = true := by
  intro w' hw' a' U hU
  rw [List.mem_singleton.mp hw']
  refine word_at hU (good_of_word hg) (hF.wd hG hw ?_)
  cases w <;> first | exact hg | rfl
theorem cP_here (hF : Ok G F own cc nL ret) {As : List Value} {H : Heap} {locs : List Loc} (hR : Rp G h H) (hS : va_S (gF G) (fS F).heap H locs) : ∀ U : State, U.heap = H → (fS F).WarmedH U.vm → cP G As h As.toArray U := by
  intro U hU hW
  have hSt : St G (fS F) := hF.2.2.2.2.2.2
  refine ⟨rfl, ⟨State.WarmedH.trans hSt.1 hW, by rw [hU]; exact Nat.le_trans hSt.2.1 hS.1, fun a ha => ?_⟩, by rw [hU]; exact hR⟩
  rw [hU, hS.2.1 a (Nat.lt_of_lt_of_le ha hSt.2.1) (Nat.not_le.mpr ha)]
  exact hSt.2.2 a ha
theorem V.ofRun (hF : Ok G F own cc nL ret) {rest : List Value} {a : Array Value} {mc ms : Nat}
    (hrun : ∀ (H : Heap) (locs : List Loc) (ls : Array Slot) (cells slots : Nat), Rp G h H → va_S (gF G) (fS F).heap H locs → ls.size = (fC F).maxLocals → cells + mc ≤ (fR F).cells → slots + ms ≤ (fR F).slots → vx_Run F.1 G.1 F.2.1 (fR F) (fS F) (fM F) (fA F) (fB F) (fMe F) (fC F) H locs cells slots mc ms (F0 (fM F) pc ls stk) rest (cQ G po a) (cX G px) (gF G))
    (kk : ∀ v h', po v h' → V G F Q kc ks (pc + 3) L (v.toList ++ rest) h') (kx : ∀ E h', px E h' → VX G F Q kc ks pc L E h') : V G F Q (kc + mc) (ks + ms) pc L stk h := by
  intro H locs ls cells slots hR hS hL hz h1 h2 T hT X
  have keep : ∀ {st₀ t T' : State} {L' : List Loc}, st₀.heap = H → T'.heap = t.heap → va_F (gF G) st₀ t → (∀ q ∈ L', gF G q.base) → va_S (gF G) (fS F).heap T'.heap (locs ++ L') := by
    intro st₀ t T' L' h0 e1 hv hL'
    obtain ⟨hz2, hk2⟩ := hv
    rw [h0] at hz2 hk2
    refine ⟨Nat.le_trans hS.1 (by rw [e1]; exact hz2), fun q g1 g2 => ?_, fun q hq => ?_⟩
    · rw [e1, hk2 q (Nat.lt_of_lt_of_le g1 hS.1) g2]
      exact hS.2.1 q g1 g2
    · rcases List.mem_append.mp hq with h | h
      · exact hS.2.2 q h
      · exact hL' q h
  rcases hrun H locs ls cells slots hR hS hz (by omega) (by omega) T hT X with ⟨v, st₀, t, T', L', h0, X', hL', e1, e2, ⟨v', h', hv, hpo, hR', hfr⟩, sto⟩ | ⟨q, st₀, t, T', L', E, ce, h0, X', hL', e1, e2, ⟨h', hpx, hR', hfr⟩, hce, hcv, hcl, sto⟩
  · cases hv
    obtain ⟨t2, a1, b1⟩ := kk v h' hpo T'.heap (locs ++ L') ls (cells + mc) (slots + ms) (by rw [e1]; exact hR') (keep h0 e1 hfr hL') hL hz (by omega) (by omega) T' rfl X'
    exact ⟨t2, sto t2 a1, b1⟩
  · obtain ⟨t2, a1, b1⟩ := kx E h' hpx T'.heap (locs ++ L') ls rest (cells + mc) (slots + ms) q ce (by rw [e1]; exact hR') (keep h0 e1 hfr hL') hL hz (by omega) (by omega) (by rw [e1]; exact hce) hcv hcl T' rfl X'
    exact ⟨t2, sto.trans a1, b1⟩
theorem vx_ofRun {p : Program} {l : Launch} {e : Env} {R : Room} {s : State} {m : MethodId} {args : Array Value} {below : List Frame} {meth : Method} {c : Code} {H : Heap} {locs : List Loc} {cells slots mc ms : Nat} {g : JFrame} {rest : List Value} {Qa : State → Outcome → State → Prop} {XC : String → State → State → Prop} {free : Addr → Prop} (hr : va_Run p l e R s m args below meth c H locs cells slots mc ms g rest Qa free) : vx_Run p l e R s m args below meth c H locs cells slots mc ms g rest Qa XC free :=
  fun T hT X => Or.inl (hr T hT X)
variable {y : MethodName} {bytes : ByteArray} {nM rf rl mc ms ix n ci b : Nat} {re : Option FieldType} {As vs : List Value} {T : u_T} {N : Nat}
def lkV (own : String) (ix : Nat) (y : MethodName) (bytes : ByteArray) (nM : Nat) (re : Option FieldType) (n : Nat) : Prop := tw (.methodLink own ix y) ∧ tw (.instanceMethod y) ∧ tw (.selects y.cls y y) ∧ tw (.initialized y.cls) ∧ (Cond.code y bytes nM re ∈ lw_tbl ∧ goodWord (Cond.code y bytes nM re) = true) ∧ okn1 y n
theorem V.callV (hG : GOk G) (hF : Ok G F own cc nL ret) (hl : lkV own ix y bytes nM re n) (hd : decode cc pc = .ok (.invokevirtual ix, 3)) (hM : Ct G y (.code y bytes nM re) rf rl mc ms (.ref b :: As) h po px)
    (hb : h b = some (.inr (ci, vs))) (hcl : vwCl[ci]? = some (y.cls, T, N)) (hn : As.length = n) (hroom : rf + 1 ≤ (fR F).frames ∧ 8 + (nM + 11) + rl ≤ (fR F).locals) (hsum : (st.map fun v => v.category).sum ≤ 8) (hst : stk = As.reverse ++ .ref b :: st)
    (kk : ∀ v h', po v h' → V G F Q kc ks (pc + 3) L (v.toList ++ st) h') (kx : ∀ E h', px E h' → VX G F Q kc ks pc L E h') : V G F Q (kc + mc) (ks + ms) pc L stk h := by
  subst hst
  obtain ⟨w1, w2, w3, w4, w5, w6⟩ := hl
  have hK := hF.K hG
  refine V.ofRun hF (a := (Value.ref b :: As).toArray) (rest := st) (fun H locs ls cells slots hR hS hz h1 h2 => ?_) kk kx
  exact vx_runV (As := As) (rest := st) (n := n) (C := y.cls) (Ts := []) ⟨hF.1, hF.2.1, hF.2.2.1, hF.2.2.2.2.1, fun w h => by cases h⟩ hM
    ⟨⟨rfl, rfl, hroom.1, hroom.2, one_word hG hF w5.1 w5.2, List.mem_cons_self, hF.wd hG w5.1 (by simpa [kw] using w5.2), hF.wd hG w4.1 w4.2, w6.1, w6.len, hF.wd hG w1.1 w1.2⟩, hF.wd hG w2.1 w2.2, hF.wd hG w3.1 w3.2⟩
    ⟨cP_blind, va_recv (q0 := 0) hK (hR.one hb) hcl rfl, cP_here hF hR hS⟩ rfl hn (hz.trans hF.2.2.1) rfl (lv_room hsum) hd ⟨h1, h2⟩
def lkS (own : String) (ix : Nat) (y : MethodName) (bytes : ByteArray) (nM : Nat) (re : Option FieldType) (n : Nat) : Prop := tw (.methodLink own ix y) ∧ tw (.static y) ∧ tw (.initialized y.cls) ∧ (Cond.code y bytes nM re ∈ lw_tbl ∧ goodWord (Cond.code y bytes nM re) = true) ∧ okn1 y n
theorem V.callS (hG : GOk G) (hF : Ok G F own cc nL ret) (hl : lkS own ix y bytes nM re n) (hd : decode cc pc = .ok (.invokestatic ix, 3)) (hM : Ct G y (.code y bytes nM re) rf rl mc ms As h po px)
    (hn : As.length = n) (hroom : rf + 1 ≤ (fR F).frames ∧ 8 + (nM + 11) + rl ≤ (fR F).locals) (hsum : (st.map fun v => v.category).sum ≤ 8) (hst : stk = As.reverse ++ st)
    (kk : ∀ v h', po v h' → V G F Q kc ks (pc + 3) L (v.toList ++ st) h') (kx : ∀ E h', px E h' → VX G F Q kc ks pc L E h') : V G F Q (kc + mc) (ks + ms) pc L stk h := by
  subst hst
  obtain ⟨w1, w2, w4, w5, w6⟩ := hl
  refine V.ofRun hF (a := As.toArray) (rest := st) (fun H locs ls cells slots hR hS hz h1 h2 => ?_) kk kx
  exact vx_runS (As := As) (rest := st) (n := n) (Ts := []) ⟨hF.1, hF.2.1, hF.2.2.1, hF.2.2.2.2.1, fun w h => by cases h⟩ hM
    ⟨⟨rfl, rfl, hroom.1, hroom.2, one_word hG hF w5.1 w5.2, List.mem_cons_self, hF.wd hG w5.1 (by simpa [kw] using w5.2), hF.wd hG w4.1 w4.2, w6.1, w6.len, hF.wd hG w1.1 w1.2⟩, hF.wd hG w2.1 w2.2⟩
    ⟨cP_blind, cP_here hF hR hS⟩ rfl hn (hz.trans hF.2.2.1) rfl (lv_room hsum) hd ⟨h1, h2⟩
/-- .. of a method with handlers -/
def lkSW (own : String) (ix : Nat) (y : MethodName) (bytes : ByteArray) (nM : Nat) (re : Option FieldType) (hh : List (Nat × Nat × Nat × Nat)) (n : Nat) : Prop := tw (.methodLink own ix y) ∧ tw (.static y) ∧ tw (.initialized y.cls) ∧ (Cond.codeWith y bytes nM re hh ∈ lw_tbl ∧ goodWord (Cond.codeWith y bytes nM re hh) = true) ∧ okn1 y n
theorem V.callSW (hG : GOk G) (hF : Ok G F own cc nL ret) {hh : List (Nat × Nat × Nat × Nat)} (hl : lkSW own ix y bytes nM re hh n) (hd : decode cc pc = .ok (.invokestatic ix, 3)) (hM : Ct G y (.codeWith y bytes nM re hh) rf rl mc ms As h po px)
    (hn : As.length = n) (hroom : rf + 1 ≤ (fR F).frames ∧ 8 + (nM + 11) + rl ≤ (fR F).locals) (hsum : (st.map fun v => v.category).sum ≤ 8) (hst : stk = As.reverse ++ st)
    (kk : ∀ v h', po v h' → V G F Q kc ks (pc + 3) L (v.toList ++ st) h') (kx : ∀ E h', px E h' → VX G F Q kc ks pc L E h') : V G F Q (kc + mc) (ks + ms) pc L stk h := by
  subst hst
  obtain ⟨w1, w2, w4, w5, w6⟩ := hl
  refine V.ofRun hF (a := As.toArray) (rest := st) (fun H locs ls cells slots hR hS hz h1 h2 => ?_) kk kx
  exact vx_runSX (As := As) (rest := st) (n := n) (Ts := []) (hh := hh) ⟨hF.1, hF.2.1, hF.2.2.1, hF.2.2.2.2.1, fun w h => by cases h⟩ hM
    ⟨⟨rfl, rfl, hroom.1, hroom.2, one_word hG hF w5.1 w5.2, List.mem_cons_self⟩, hF.wd hG w5.1 (by simpa [kw] using w5.2), hF.wd hG w4.1 w4.2, w6.1, w6.len, hF.wd hG w1.1 w1.2, hF.wd hG w2.1 w2.2⟩
    ⟨cP_blind, cP_here hF hR hS⟩ rfl hn (hz.trans hF.2.2.1) rfl (lv_room hsum) hd ⟨h1, h2⟩
def lkI (own : String) (ix : Nat) (y : MethodName) (bytes : ByteArray) (nM n : Nat) : Prop := (tw (.methodLink own ix y) ∨ ∃ host, tw (.methodLinkNest own ix y host)) ∧ tw (.instanceMethod y) ∧ tw (.initialized y.cls) ∧ (Cond.code y bytes nM none ∈ lw_tbl ∧ goodWord (Cond.code y bytes nM none) = true) ∧ okn1 y n ∧ y.name = "<init>"
/-- a constructor -/
theorem V.callI (hG : GOk G) (hF : Ok G F own cc nL ret) (hl : lkI own ix y bytes nM n) (hd : decode cc pc = .ok (.invokespecial ix, 3)) (hM : Ct G y (.code y bytes nM none) rf rl mc ms (.ref b :: As) h po pxN)
    (hn : As.length = n) (hroom : rf + 1 ≤ (fR F).frames ∧ 8 + (nM + 11) + rl ≤ (fR F).locals) (hsum : (st.map fun v => v.category).sum ≤ 8) (hst : stk = As.reverse ++ .ref b :: st)
    (kk : ∀ v h', po v h' → V G F Q kc ks (pc + 3) L (v.toList ++ st) h') : V G F Q (kc + mc) (ks + ms) pc L stk h := by
  subst hst
  obtain ⟨w1, w2, w4, w5, w6, w7⟩ := hl
  refine V.ofRun hF (px := pxN) (a := (Value.ref b :: As).toArray) (rest := st) (fun H locs ls cells slots hR hS hz h1 h2 => ?_) kk (fun E h' hx => hx.elim)
  rcases w1 with w1 | ⟨host, w1⟩
  · exact vx_ofRun (va_runI (As := As) (rest := st) (n := n) (Ts := []) ⟨hF.1, hF.2.1, hF.2.2.1, hF.2.2.2.2.1, fun w h => by cases h⟩ hM.met
      ⟨⟨rfl, rfl, hroom.1, hroom.2, one_word hG hF w5.1 w5.2, List.mem_cons_self, hF.wd hG w5.1 (by simpa [kw] using w5.2), hF.wd hG w4.1 w4.2, w6.1, w6.len, hF.wd hG w1.1 w1.2⟩, w7, hF.wd hG w2.1 w2.2⟩
      ⟨cP_blind, cP_here hF hR hS⟩ rfl hn (hz.trans hF.2.2.1) rfl (lv_room hsum) hd ⟨h1, h2⟩)
  · exact vx_ofRun (va_runIN (As := As) (rest := st) (n := n) (Ts := []) ⟨hF.1, hF.2.1, hF.2.2.1, hF.2.2.2.2.1, fun w h => by cases h⟩ hM.met
      ⟨⟨⟨rfl, rfl, hroom.1, hroom.2, one_word hG hF w5.1 w5.2, List.mem_cons_self⟩, hF.wd hG w5.1 (by simpa [kw] using w5.2), hF.wd hG w4.1 w4.2, w6.1, w6.len, hF.wd hG w1.1 w1.2⟩, w7, hF.wd hG w2.1 w2.2⟩
      ⟨cP_blind, cP_here hF hR hS⟩ rfl hn (hz.trans hF.2.2.1) rfl (lv_room hsum) hd ⟨h1, h2⟩)
def lkVN (own : String) (ix : Nat) (y : MethodName) (bytes : ByteArray) (nM : Nat) (re : Option FieldType) (n : Nat) : Prop := (∃ host, tw (.methodLinkNest own ix y host)) ∧ tw (.instanceMethod y) ∧ tw (.selects y.cls y y) ∧ tw (.initialized y.cls) ∧ (Cond.code y bytes nM re ∈ lw_tbl ∧ goodWord (Cond.code y bytes nM re) = true) ∧ okn1 y n
/-- a nest mate's private method, that throws nothing -/
theorem V.callVN (hG : GOk G) (hF : Ok G F own cc nL ret) (hl : lkVN own ix y bytes nM re n) (hd : decode cc pc = .ok (.invokevirtual ix, 3)) (hM : Ct G y (.code y bytes nM re) rf rl mc ms (.ref b :: As) h po pxN)
    (hb : h b = some (.inr (ci, vs))) (hcl : vwCl[ci]? = some (y.cls, T, N)) (hn : As.length = n) (hroom : rf + 1 ≤ (fR F).frames ∧ 8 + (nM + 11) + rl ≤ (fR F).locals) (hsum : (st.map fun v => v.category).sum ≤ 8) (hst : stk = As.reverse ++ .ref b :: st)
    (kk : ∀ v h', po v h' → V G F Q kc ks (pc + 3) L (v.toList ++ st) h') : V G F Q (kc + mc) (ks + ms) pc L stk h := by
  subst hst
  obtain ⟨⟨host, w1⟩, w2, w3, w4, w5, w6⟩ := hl
  have hK := hF.K hG
  refine V.ofRun hF (px := pxN) (a := (Value.ref b :: As).toArray) (rest := st) (fun H locs ls cells slots hR hS hz h1 h2 => ?_) kk (fun E h' hx => hx.elim)
  exact vx_ofRun (va_runVN (As := As) (rest := st) (n := n) (C := y.cls) (Ts := []) ⟨hF.1, hF.2.1, hF.2.2.1, hF.2.2.2.2.1, fun w h => by cases h⟩ hM.met
    ⟨⟨⟨rfl, rfl, hroom.1, hroom.2, one_word hG hF w5.1 w5.2, List.mem_cons_self⟩, hF.wd hG w5.1 (by simpa [kw] using w5.2), hF.wd hG w4.1 w4.2, w6.1, w6.len, hF.wd hG w1.1 w1.2⟩, hF.wd hG w2.1 w2.2, hF.wd hG w3.1 w3.2⟩
    ⟨cP_blind, va_recv (q0 := 0) hK (hR.one hb) hcl rfl, cP_here hF hR hS⟩ rfl hn (hz.trans hF.2.2.1) rfl (lv_room hsum) hd ⟨h1, h2⟩)
theorem V.objInit (hG : GOk G) (hF : Ok G F own cc nL ret) {a : Nat} (w1 : tw (.methodLink own ix objectInit)) (w2 : tw (.instanceMethod objectInit)) (w3 : tw (.code objectInit ⟨#[0xb1]⟩ 1 none)) (hd : decode cc pc = .ok (.invokespecial ix, 3)) (hroom : 1 ≤ (fR F).frames ∧ (st.map fun v => v.category).sum + 12 ≤ (fR F).locals)
    (kk : V G F Q kc ks (pc + 3) L st h) : V G F Q kc ks pc L (.ref a :: st) h := by
  intro H locs ls cells slots hR hS hL hz h1 h2
  refine W.objInit hF.1 hF.2.1 hF.2.2.2.2.1 (hF.wd hG w1.1 w1.2) (hF.wd hG w2.1 w2.2) (hF.wd hG w3.1 w3.2) rfl hz rfl hd hroom.1 (by show 2 * 0 + _ + 12 ≤ _; omega) ?_
  exact kk H locs ls cells slots hR hS hL hz h1 h2
theorem V.mmin (hG : GOk G) (hF : Ok G F own cc nL ret) {x y : Int32} (w1 : tw (.methodLink own ix Lib.Math.min.name)) (w2 : tw (.static Lib.Math.min.name)) (w3 : tw (.initialized "java/lang/Math")) (w4 : tw (.code Lib.Math.min.name Lib.Math.min.code 2 (some .int))) (hd : decode cc pc = .ok (.invokestatic ix, 3)) (hroom : 1 ≤ (fR F).frames ∧ (st.map fun v => v.category).sum + 13 ≤ (fR F).locals)
    (kk : V G F Q kc ks (pc + 3) L (.int (if y < x then y else x) :: st) h) : V G F Q kc ks pc L (.int y :: .int x :: st) h := by
  intro H locs ls cells slots hR hS hL hz h1 h2
  refine va_mmin hF.1 hF.2.1 hz.symm hF.2.2.2.2.1 (hF.wd hG w1.1 w1.2) (hF.wd hG w2.1 w2.2) (hF.wd hG w3.1 w3.2) (hF.wd hG w4.1 w4.2) hroom.1 hroom.2 (by omega) (by omega) hd ?_
  exact kk H locs ls cells slots hR hS hL hz h1 h2
/-- throw new cls(text) -/
def lkT (own : String) (ik is ic : Nat) (cls text : String) : Prop := tw (.classLink own ik cls) ∧ tw (.initialized cls) ∧ Cond.stringRef own is text ∈ lw_tbl ∧ Bundle.fit cls = true ∧ (∀ w ∈ vx_atS own ic cls ["java/lang/RuntimeException", "java/lang/Exception"], tw w) ∧ ∀ w ∈ Cond.classLink own ik cls :: Cond.initialized cls :: vx_atS own ic cls ["java/lang/RuntimeException", "java/lang/Exception"], vx_ot w = true
theorem V.throwS (hG : GOk G) (hF : Ok G F own cc nL ret) (hT : NoTab F) {ik is ic : Nat} {cls text : String} (hl : lkT own ik is ic cls text) (d0 : decode cc pc = .ok (.new ik, 3)) (d3 : decode cc (pc + 3) = .ok (.dup, 1)) (d4 : decode cc (pc + 4) = .ok (.ldc is, 2)) (d6 : decode cc (pc + 6) = .ok (.invokespecial ic, 3)) (d9 : decode cc (pc + 9) = .ok (.athrow, 1))
    (hroom : 5 < (fR F).frames ∧ (st.map fun v => v.category).sum + 82 ≤ (fR F).locals) (hp : px cls h) : V G F (fin G F po px) (kc + 1) (ks + 6) pc L st h := by
  intro H locs ls cells slots hR hS hL hz h1 h2
  have hSt : St G (fS F) := hF.2.2.2.2.2.2
  obtain ⟨w1, w2, w3, w4, w5, w6⟩ := hl
  obtain ⟨sa, hsa⟩ := hG.2.2.2.2.2 own is text w3
  have kept : ∀ a : Nat, a < G.2.1.heap.size → ¬ gF G a → (fS F).heap[a]? = G.2.1.heap[a]? := fun a ha _ => hSt.2.2 a ha
  refine vx_throwS (names := ["java/lang/RuntimeException", "java/lang/Exception"]) (A := gF G) hF.1 hF.2.1 hG.1 hF.2.2.2.2.1 w4 (by decide +kernel) (hF.wd hG w1.1 w1.2) (hF.wd hG w2.1 w2.2) (vk_R.warm hSt.1 hsa) (fun w hw => hF.wd hG (w5 w hw).1 (w5 w hw).2) w6
    (vx_Zq.moved hSt.1.alike (hG.2.2.2.1.kept kept)) (vx_Zq.moved hSt.1.alike (hG.2.2.2.2.1.kept kept)) hS hz d0 d3 d4 d6 d9 (fun x hx => (hT x hx).elim) hroom.1 hroom.2 (by omega) (by omega) hF.2.2.2.2.2.1 (fun t hv e1 e2 => ?_) hS.2.2 (by omega) (by omega)
  exact ⟨h, hp, hR.kept e2, Nat.le_trans hS.1 e1, fun q g1 g2 => (e2 q (Nat.lt_of_lt_of_le g1 hS.1)).trans (hS.2.1 q g1 g2)⟩
end C1
end
section
theorem tw_14 : tw (Jvm.Cond.classLink "TallyWaxLaw" (26 : Nat) "TallyWax") := ⟨List.mem_of_getElem? (i := 38) (by decide +kernel), by decide +kernel⟩
theorem tw_15 : tw (Jvm.Cond.instantiable "TallyWax" (9 : Nat)) := ⟨List.mem_of_getElem? (i := 39) (by decide +kernel), by decide +kernel⟩
theorem tw_1 : tw (Jvm.Cond.initialized "TallyWax") := ⟨List.mem_of_getElem? (i := 25) (by decide +kernel), by decide +kernel⟩
theorem k_RL_26 : lkC RL 26 3 9 [.null, .null, .null, .null, .null, .int 0, .int 0, .int 0, .int 0] := by
  refine ⟨RX3, TX3, rfl, tw_14.1, tw_15.1, tw_1.1, fun ty0 h j hj => ?_⟩
  have hj2 := h j hj
  rcases (show j = 0 ∨ j = 1 ∨ j = 2 ∨ j = 3 ∨ j = 4 ∨ j = 5 ∨ j = 6 ∨ j = 7 ∨ j = 8 by omega) with rfl | rfl | rfl | rfl | rfl | rfl | rfl | rfl | rfl <;>
    (rw [Option.some.inj (hj2.symm.trans (tyX3_ok _ hj))]; rfl)
theorem tw_16 : tw (Jvm.Cond.methodLink "TallyWaxLaw" (96 : Nat) ({ cls := "TallyWax", name := "<init>", desc := "()V" } : Jvm.MethodName)) := ⟨List.mem_of_getElem? (i := 40) (by decide +kernel), by decide +kernel⟩
theorem tw_17 : tw (Jvm.Cond.instanceMethod ({ cls := "TallyWax", name := "<init>", desc := "()V" } : Jvm.MethodName)) := ⟨List.mem_of_getElem? (i := 41) (by decide +kernel), by decide +kernel⟩
theorem gw_18 : ((Jvm.Cond.code ({ cls := "TallyWax", name := "<init>", desc := "()V" } : Jvm.MethodName) prog_1_method_1_code (2 : Nat) (Option.none : Option Jvm.ClassFile.FieldType)) : Cond) ∈ lw_tbl ∧ goodWord (Jvm.Cond.code ({ cls := "TallyWax", name := "<init>", desc := "()V" } : Jvm.MethodName) prog_1_method_1_code (2 : Nat) (Option.none : Option Jvm.ClassFile.FieldType)) = true := ⟨List.mem_of_getElem? (i := 42) (by decide +kernel), by decide +kernel⟩
theorem k_RL_96 : lkI RL 96 yX3_init cX3_init 2 0 := ⟨Or.inl tw_16, tw_17, tw_1, gw_18, ⟨⟨by decide +kernel, by decide +kernel⟩, by decide +kernel⟩, rfl⟩
theorem tw_19 : tw (Jvm.Cond.methodLink "TallyWax" (1 : Nat) ({ cls := "java/lang/Object", name := "<init>", desc := "()V" } : Jvm.MethodName)) := ⟨List.mem_of_getElem? (i := 43) (by decide +kernel), by decide +kernel⟩
theorem tw_22 : tw (Jvm.Cond.classLink "TallyWax" (13 : Nat) "TallyWax$Tablet") := ⟨List.mem_of_getElem? (i := 46) (by decide +kernel), by decide +kernel⟩
theorem tw_185 : tw (Jvm.Cond.instantiable "TallyWax$Tablet" (3 : Nat)) := ⟨List.mem_of_getElem? (i := 209) (by decide +kernel), by decide +kernel⟩
theorem tw_10 : tw (Jvm.Cond.initialized "TallyWax$Tablet") := ⟨List.mem_of_getElem? (i := 34) (by decide +kernel), by decide +kernel⟩
theorem k_RX3_13 : lkC RX3 13 2 3 [.int 0, .int 0, .null] := by
  refine ⟨RX2, TX2, rfl, tw_22.1, tw_185.1, tw_10.1, fun ty0 h j hj => ?_⟩
  have hj2 := h j hj
  rcases (show j = 0 ∨ j = 1 ∨ j = 2 by omega) with rfl | rfl | rfl <;>
    (rw [Option.some.inj (hj2.symm.trans (tyX2_ok _ hj))]; rfl)
theorem tw_24 : tw (Jvm.Cond.classLink "TallyWax" (23 : Nat) "TallyWax$Smoothing") := ⟨List.mem_of_getElem? (i := 48) (by decide +kernel), by decide +kernel⟩
theorem tw_25 : tw (Jvm.Cond.instantiable "TallyWax$Smoothing" (2 : Nat)) := ⟨List.mem_of_getElem? (i := 49) (by decide +kernel), by decide +kernel⟩
theorem tw_2 : tw (Jvm.Cond.initialized "TallyWax$Smoothing") := ⟨List.mem_of_getElem? (i := 26) (by decide +kernel), by decide +kernel⟩
theorem k_RX3_23 : lkC RX3 23 1 2 [.null, .null] := by
  refine ⟨RX1, TX1, rfl, tw_24.1, tw_25.1, tw_2.1, fun ty0 h j hj => ?_⟩
  have hj2 := h j hj
  rcases (show j = 0 ∨ j = 1 by omega) with rfl | rfl <;>
    (rw [Option.some.inj (hj2.symm.trans (tyX1_ok _ hj))]; rfl)
theorem tw_26 : tw (Jvm.Cond.methodLinkNest "TallyWax" (25 : Nat) ({ cls := "TallyWax$Smoothing", name := "<init>", desc := "()V" } : Jvm.MethodName) "TallyWax") := ⟨List.mem_of_getElem? (i := 50) (by decide +kernel), by decide +kernel⟩
theorem tw_27 : tw (Jvm.Cond.instanceMethod ({ cls := "TallyWax$Smoothing", name := "<init>", desc := "()V" } : Jvm.MethodName)) := ⟨List.mem_of_getElem? (i := 51) (by decide +kernel), by decide +kernel⟩
theorem gw_28 : ((Jvm.Cond.code ({ cls := "TallyWax$Smoothing", name := "<init>", desc := "()V" } : Jvm.MethodName) prog_3_method_1_code (1 : Nat) (Option.none : Option Jvm.ClassFile.FieldType)) : Cond) ∈ lw_tbl ∧ goodWord (Jvm.Cond.code ({ cls := "TallyWax$Smoothing", name := "<init>", desc := "()V" } : Jvm.MethodName) prog_3_method_1_code (1 : Nat) (Option.none : Option Jvm.ClassFile.FieldType)) = true := ⟨List.mem_of_getElem? (i := 52) (by decide +kernel), by decide +kernel⟩
theorem k_RX3_25 : lkI RX3 25 yX1_init cX1_init 1 0 := ⟨Or.inr ⟨_, tw_26⟩, tw_27, tw_2, gw_28, ⟨⟨by decide +kernel, by decide +kernel⟩, by decide +kernel⟩, rfl⟩
theorem tw_29 : tw (Jvm.Cond.methodLink "TallyWax$Smoothing" (3 : Nat) ({ cls := "java/lang/Object", name := "<init>", desc := "()V" } : Jvm.MethodName)) := ⟨List.mem_of_getElem? (i := 53) (by decide +kernel), by decide +kernel⟩
theorem tw_30 : tw (Jvm.Cond.classLink "TallyWax$Smoothing" (15 : Nat) "TallyWax$LineList") := ⟨List.mem_of_getElem? (i := 54) (by decide +kernel), by decide +kernel⟩
theorem tw_31 : tw (Jvm.Cond.instantiable "TallyWax$LineList" (5 : Nat)) := ⟨List.mem_of_getElem? (i := 55) (by decide +kernel), by decide +kernel⟩
theorem tw_3 : tw (Jvm.Cond.initialized "TallyWax$LineList") := ⟨List.mem_of_getElem? (i := 27) (by decide +kernel), by decide +kernel⟩
theorem k_RX1_15 : lkC RX1 15 0 5 [.null, .null, .null, .null, .int 0] := by
  refine ⟨RX0, TX0, rfl, tw_30.1, tw_31.1, tw_3.1, fun ty0 h j hj => ?_⟩
  have hj2 := h j hj
  rcases (show j = 0 ∨ j = 1 ∨ j = 2 ∨ j = 3 ∨ j = 4 by omega) with rfl | rfl | rfl | rfl | rfl <;>
    (rw [Option.some.inj (hj2.symm.trans (tyX0_ok _ hj))]; rfl)
theorem tw_32 : tw (Jvm.Cond.methodLinkNest "TallyWax$Smoothing" (17 : Nat) ({ cls := "TallyWax$LineList", name := "<init>", desc := "()V" } : Jvm.MethodName) "TallyWax") := ⟨List.mem_of_getElem? (i := 56) (by decide +kernel), by decide +kernel⟩
theorem tw_33 : tw (Jvm.Cond.instanceMethod ({ cls := "TallyWax$LineList", name := "<init>", desc := "()V" } : Jvm.MethodName)) := ⟨List.mem_of_getElem? (i := 57) (by decide +kernel), by decide +kernel⟩
theorem gw_34 : ((Jvm.Cond.code ({ cls := "TallyWax$LineList", name := "<init>", desc := "()V" } : Jvm.MethodName) prog_2_method_1_code (1 : Nat) (Option.none : Option Jvm.ClassFile.FieldType)) : Cond) ∈ lw_tbl ∧ goodWord (Jvm.Cond.code ({ cls := "TallyWax$LineList", name := "<init>", desc := "()V" } : Jvm.MethodName) prog_2_method_1_code (1 : Nat) (Option.none : Option Jvm.ClassFile.FieldType)) = true := ⟨List.mem_of_getElem? (i := 58) (by decide +kernel), by decide +kernel⟩
theorem k_RX1_17 : lkI RX1 17 yX0_init cX0_init 1 0 := ⟨Or.inr ⟨_, tw_32⟩, tw_33, tw_3, gw_34, ⟨⟨by decide +kernel, by decide +kernel⟩, by decide +kernel⟩, rfl⟩
theorem tw_35 : tw (Jvm.Cond.methodLink "TallyWax$LineList" (3 : Nat) ({ cls := "java/lang/Object", name := "<init>", desc := "()V" } : Jvm.MethodName)) := ⟨List.mem_of_getElem? (i := 59) (by decide +kernel), by decide +kernel⟩
theorem tw_36 : tw (Jvm.Cond.fieldLink "TallyWax$LineList" (9 : Nat) "TallyWax$LineList" "debtor" "[I") := ⟨List.mem_of_getElem? (i := 60) (by decide +kernel), by decide +kernel⟩
theorem k_RX0_9 : lkF RX0 9 0 0 := ⟨RX0, TX0, 5, rfl, by decide, Or.inl tw_36.1⟩
theorem ko_RX0_9 : lkFo RX0 9 0 0 := ⟨RX0, TX0, 5, rfl, by decide, tw_36.1⟩
theorem tw_37 : tw (Jvm.Cond.fieldLinkNest "TallyWax" (101 : Nat) "TallyWax$LineList" "debtor" "[I" "TallyWax") := ⟨List.mem_of_getElem? (i := 61) (by decide +kernel), by decide +kernel⟩
theorem k_RX3_101 : lkF RX3 101 0 0 := ⟨RX0, TX0, 5, rfl, by decide, Or.inr ⟨_, tw_37.1⟩⟩
theorem tw_38 : tw (Jvm.Cond.fieldLink "TallyWax$LineList" (15 : Nat) "TallyWax$LineList" "creditor" "[I") := ⟨List.mem_of_getElem? (i := 62) (by decide +kernel), by decide +kernel⟩
theorem k_RX0_15 : lkF RX0 15 0 1 := ⟨RX0, TX0, 5, rfl, by decide, Or.inl tw_38.1⟩
theorem ko_RX0_15 : lkFo RX0 15 0 1 := ⟨RX0, TX0, 5, rfl, by decide, tw_38.1⟩
theorem tw_39 : tw (Jvm.Cond.fieldLinkNest "TallyWax" (146 : Nat) "TallyWax$LineList" "creditor" "[I" "TallyWax") := ⟨List.mem_of_getElem? (i := 63) (by decide +kernel), by decide +kernel⟩
theorem k_RX3_146 : lkF RX3 146 0 1 := ⟨RX0, TX0, 5, rfl, by decide, Or.inr ⟨_, tw_39.1⟩⟩
theorem tw_40 : tw (Jvm.Cond.fieldLink "TallyWax$LineList" (18 : Nat) "TallyWax$LineList" "amount" "[I") := ⟨List.mem_of_getElem? (i := 64) (by decide +kernel), by decide +kernel⟩
theorem k_RX0_18 : lkF RX0 18 0 2 := ⟨RX0, TX0, 5, rfl, by decide, Or.inl tw_40.1⟩
theorem ko_RX0_18 : lkFo RX0 18 0 2 := ⟨RX0, TX0, 5, rfl, by decide, tw_40.1⟩
theorem tw_41 : tw (Jvm.Cond.fieldLinkNest "TallyWax" (88 : Nat) "TallyWax$LineList" "amount" "[I" "TallyWax") := ⟨List.mem_of_getElem? (i := 65) (by decide +kernel), by decide +kernel⟩
theorem k_RX3_88 : lkF RX3 88 0 2 := ⟨RX0, TX0, 5, rfl, by decide, Or.inr ⟨_, tw_41.1⟩⟩
theorem tw_42 : tw (Jvm.Cond.fieldLink "TallyWax$LineList" (21 : Nat) "TallyWax$LineList" "witness" "[I") := ⟨List.mem_of_getElem? (i := 66) (by decide +kernel), by decide +kernel⟩
theorem k_RX0_21 : lkF RX0 21 0 3 := ⟨RX0, TX0, 5, rfl, by decide, Or.inl tw_42.1⟩
theorem ko_RX0_21 : lkFo RX0 21 0 3 := ⟨RX0, TX0, 5, rfl, by decide, tw_42.1⟩
theorem tw_43 : tw (Jvm.Cond.fieldLinkNest "TallyWax" (96 : Nat) "TallyWax$LineList" "witness" "[I" "TallyWax") := ⟨List.mem_of_getElem? (i := 67) (by decide +kernel), by decide +kernel⟩
theorem k_RX3_96 : lkF RX3 96 0 3 := ⟨RX0, TX0, 5, rfl, by decide, Or.inr ⟨_, tw_43.1⟩⟩
theorem tw_44 : tw (Jvm.Cond.fieldLink "TallyWax$LineList" (24 : Nat) "TallyWax$LineList" "count" "I") := ⟨List.mem_of_getElem? (i := 68) (by decide +kernel), by decide +kernel⟩
theorem k_RX0_24 : lkF RX0 24 0 4 := ⟨RX0, TX0, 5, rfl, by decide, Or.inl tw_44.1⟩
theorem tw_45 : tw (Jvm.Cond.fieldLinkNest "TallyWax$Smoothing" (22 : Nat) "TallyWax$LineList" "count" "I" "TallyWax") := ⟨List.mem_of_getElem? (i := 69) (by decide +kernel), by decide +kernel⟩
theorem k_RX1_22 : lkF RX1 22 0 4 := ⟨RX0, TX0, 5, rfl, by decide, Or.inr ⟨_, tw_45.1⟩⟩
theorem tw_46 : tw (Jvm.Cond.fieldLinkNest "TallyWax" (67 : Nat) "TallyWax$LineList" "count" "I" "TallyWax") := ⟨List.mem_of_getElem? (i := 70) (by decide +kernel), by decide +kernel⟩
theorem k_RX3_67 : lkF RX3 67 0 4 := ⟨RX0, TX0, 5, rfl, by decide, Or.inr ⟨_, tw_46.1⟩⟩
theorem tw_60 : tw (Jvm.Cond.fieldLink "TallyWax$Smoothing" (9 : Nat) "TallyWax$Smoothing" "balance" "[I") := ⟨List.mem_of_getElem? (i := 84) (by decide +kernel), by decide +kernel⟩
theorem k_RX1_9 : lkF RX1 9 1 0 := ⟨RX1, TX1, 2, rfl, by decide, Or.inl tw_60.1⟩
theorem ko_RX1_9 : lkFo RX1 9 1 0 := ⟨RX1, TX1, 2, rfl, by decide, tw_60.1⟩
theorem tw_61 : tw (Jvm.Cond.fieldLink "TallyWax$Smoothing" (18 : Nat) "TallyWax$Smoothing" "newLines" "LTallyWax$LineList;") := ⟨List.mem_of_getElem? (i := 85) (by decide +kernel), by decide +kernel⟩
theorem k_RX1_18 : lkF RX1 18 1 1 := ⟨RX1, TX1, 2, rfl, by decide, Or.inl tw_61.1⟩
theorem ko_RX1_18 : lkFo RX1 18 1 1 := ⟨RX1, TX1, 2, rfl, by decide, tw_61.1⟩
theorem tw_62 : tw (Jvm.Cond.fieldLinkNest "TallyWax" (115 : Nat) "TallyWax$Smoothing" "newLines" "LTallyWax$LineList;" "TallyWax") := ⟨List.mem_of_getElem? (i := 86) (by decide +kernel), by decide +kernel⟩
theorem k_RX3_115 : lkF RX3 115 1 1 := ⟨RX1, TX1, 2, rfl, by decide, Or.inr ⟨_, tw_62.1⟩⟩
theorem tw_68 : tw (Jvm.Cond.fieldLink "TallyWax" (9 : Nat) "TallyWax" "there" "[Z") := ⟨List.mem_of_getElem? (i := 92) (by decide +kernel), by decide +kernel⟩
theorem k_RX3_9 : lkF RX3 9 3 0 := ⟨RX3, TX3, 9, rfl, by decide, Or.inl tw_68.1⟩
theorem ko_RX3_9 : lkFo RX3 9 3 0 := ⟨RX3, TX3, 9, rfl, by decide, tw_68.1⟩
theorem tw_69 : tw (Jvm.Cond.fieldLink "TallyWax" (15 : Nat) "TallyWax" "shelf" "[LTallyWax$Tablet;") := ⟨List.mem_of_getElem? (i := 93) (by decide +kernel), by decide +kernel⟩
theorem k_RX3_15 : lkF RX3 15 3 1 := ⟨RX3, TX3, 9, rfl, by decide, Or.inl tw_69.1⟩
theorem ko_RX3_15 : lkFo RX3 15 3 1 := ⟨RX3, TX3, 9, rfl, by decide, tw_69.1⟩
theorem tw_70 : tw (Jvm.Cond.fieldLink "TallyWax" (19 : Nat) "TallyWax" "heats" "[I") := ⟨List.mem_of_getElem? (i := 94) (by decide +kernel), by decide +kernel⟩
theorem k_RX3_19 : lkF RX3 19 3 2 := ⟨RX3, TX3, 9, rfl, by decide, Or.inl tw_70.1⟩
theorem ko_RX3_19 : lkFo RX3 19 3 2 := ⟨RX3, TX3, 9, rfl, by decide, tw_70.1⟩
theorem tw_71 : tw (Jvm.Cond.fieldLink "TallyWax" (26 : Nat) "TallyWax" "smoothing" "LTallyWax$Smoothing;") := ⟨List.mem_of_getElem? (i := 95) (by decide +kernel), by decide +kernel⟩
theorem k_RX3_26 : lkF RX3 26 3 3 := ⟨RX3, TX3, 9, rfl, by decide, Or.inl tw_71.1⟩
theorem ko_RX3_26 : lkFo RX3 26 3 3 := ⟨RX3, TX3, 9, rfl, by decide, tw_71.1⟩
theorem tw_72 : tw (Jvm.Cond.fieldLink "TallyWax" (30 : Nat) "TallyWax" "reached" "[I") := ⟨List.mem_of_getElem? (i := 96) (by decide +kernel), by decide +kernel⟩
theorem k_RX3_30 : lkF RX3 30 3 4 := ⟨RX3, TX3, 9, rfl, by decide, Or.inl tw_72.1⟩
theorem ko_RX3_30 : lkFo RX3 30 3 4 := ⟨RX3, TX3, 9, rfl, by decide, tw_72.1⟩
theorem tw_73 : tw (Jvm.Cond.fieldLink "TallyWax" (40 : Nat) "TallyWax" "tabletCount" "I") := ⟨List.mem_of_getElem? (i := 97) (by decide +kernel), by decide +kernel⟩
theorem k_RX3_40 : lkF RX3 40 3 5 := ⟨RX3, TX3, 9, rfl, by decide, Or.inl tw_73.1⟩
theorem tw_74 : tw (Jvm.Cond.fieldLink "TallyWax" (143 : Nat) "TallyWax" "yearNow" "I") := ⟨List.mem_of_getElem? (i := 98) (by decide +kernel), by decide +kernel⟩
theorem k_RX3_143 : lkF RX3 143 3 6 := ⟨RX3, TX3, 9, rfl, by decide, Or.inl tw_74.1⟩
theorem tw_75 : tw (Jvm.Cond.fieldLink "TallyWax" (140 : Nat) "TallyWax" "meltedLines" "I") := ⟨List.mem_of_getElem? (i := 99) (by decide +kernel), by decide +kernel⟩
theorem k_RX3_140 : lkF RX3 140 3 7 := ⟨RX3, TX3, 9, rfl, by decide, Or.inl tw_75.1⟩
theorem tw_76 : tw (Jvm.Cond.fieldLink "TallyWax" (106 : Nat) "TallyWax" "deniedAmount" "I") := ⟨List.mem_of_getElem? (i := 100) (by decide +kernel), by decide +kernel⟩
theorem k_RX3_106 : lkF RX3 106 3 8 := ⟨RX3, TX3, 9, rfl, by decide, Or.inl tw_76.1⟩
theorem tw_98 : tw (Jvm.Cond.selects "TallyWax" ({ cls := "TallyWax", name := "pass", desc := "(I)I" } : Jvm.MethodName) ({ cls := "TallyWax", name := "pass", desc := "(I)I" } : Jvm.MethodName)) := ⟨List.mem_of_getElem? (i := 122) (by decide +kernel), by decide +kernel⟩
theorem tw_96 : tw (Jvm.Cond.methodLink "TallyWaxLaw" (79 : Nat) ({ cls := "TallyWax", name := "pass", desc := "(I)I" } : Jvm.MethodName)) := ⟨List.mem_of_getElem? (i := 120) (by decide +kernel), by decide +kernel⟩
theorem tw_97 : tw (Jvm.Cond.instanceMethod ({ cls := "TallyWax", name := "pass", desc := "(I)I" } : Jvm.MethodName)) := ⟨List.mem_of_getElem? (i := 121) (by decide +kernel), by decide +kernel⟩
theorem gw_99 : ((Jvm.Cond.code ({ cls := "TallyWax", name := "pass", desc := "(I)I" } : Jvm.MethodName) prog_1_method_10_code (4 : Nat) (Option.some Jvm.ClassFile.FieldType.int)) : Cond) ∈ lw_tbl ∧ goodWord (Jvm.Cond.code ({ cls := "TallyWax", name := "pass", desc := "(I)I" } : Jvm.MethodName) prog_1_method_10_code (4 : Nat) (Option.some Jvm.ClassFile.FieldType.int)) = true := ⟨List.mem_of_getElem? (i := 123) (by decide +kernel), by decide +kernel⟩
theorem k_RL_79 : lkV RL 79 yX3_pass cX3_pass 4 (Option.some FieldType.int) 1 := ⟨tw_96, tw_97, tw_98, tw_1, gw_99, ⟨⟨by decide +kernel, by decide +kernel⟩, by decide +kernel⟩⟩
theorem tw_100 : tw (Jvm.Cond.methodLink "TallyWax" (133 : Nat) ({ cls := "TallyWax", name := "checkYears", desc := "(I)V" } : Jvm.MethodName)) := ⟨List.mem_of_getElem? (i := 124) (by decide +kernel), by decide +kernel⟩
theorem tw_101 : tw (Jvm.Cond.static ({ cls := "TallyWax", name := "checkYears", desc := "(I)V" } : Jvm.MethodName)) := ⟨List.mem_of_getElem? (i := 125) (by decide +kernel), by decide +kernel⟩
theorem gw_102 : ((Jvm.Cond.code ({ cls := "TallyWax", name := "checkYears", desc := "(I)V" } : Jvm.MethodName) prog_1_method_41_code (1 : Nat) (Option.none : Option Jvm.ClassFile.FieldType)) : Cond) ∈ lw_tbl ∧ goodWord (Jvm.Cond.code ({ cls := "TallyWax", name := "checkYears", desc := "(I)V" } : Jvm.MethodName) prog_1_method_41_code (1 : Nat) (Option.none : Option Jvm.ClassFile.FieldType)) = true := ⟨List.mem_of_getElem? (i := 126) (by decide +kernel), by decide +kernel⟩
theorem k_RX3_133 : lkS RX3 133 yX3_checkYears cX3_checkYears 1 (Option.none : Option FieldType) 1 := ⟨tw_100, tw_101, tw_1, gw_102, ⟨⟨by decide +kernel, by decide +kernel⟩, by decide +kernel⟩⟩
theorem tw_103 : tw (Jvm.Cond.classLink "TallyWax" (33 : Nat) "java/lang/IllegalArgumentException") := ⟨List.mem_of_getElem? (i := 127) (by decide +kernel), by decide +kernel⟩
theorem sw_144 : ((Jvm.Cond.stringRef "TallyWax" (231 : Nat) "years is not 1 to 40") : Cond) ∈ lw_tbl := List.mem_of_getElem? (i := 168) (by decide +kernel)
theorem tw_145 : tw (Jvm.Cond.methodLink "TallyWax" (37 : Nat) ({ cls := "java/lang/IllegalArgumentException", name := "<init>", desc := "(Ljava/lang/String;)V" } : Jvm.MethodName)) := ⟨List.mem_of_getElem? (i := 169) (by decide +kernel), by decide +kernel⟩
theorem twp_1 : tw (.selects "TallyWax" ({ cls := "TallyWax", name := "passOneYear", desc := "()I" } : Jvm.MethodName) ({ cls := "TallyWax", name := "passOneYear", desc := "()I" } : Jvm.MethodName)) := ⟨List.mem_of_getElem? (i := 1) (by decide +kernel), by decide +kernel⟩
theorem tw_171 : tw (Jvm.Cond.methodLink "TallyWax" (136 : Nat) ({ cls := "TallyWax", name := "passOneYear", desc := "()I" } : Jvm.MethodName)) := ⟨List.mem_of_getElem? (i := 195) (by decide +kernel), by decide +kernel⟩
theorem tw_173 : tw (Jvm.Cond.instanceMethod ({ cls := "TallyWax", name := "passOneYear", desc := "()I" } : Jvm.MethodName)) := ⟨List.mem_of_getElem? (i := 197) (by decide +kernel), by decide +kernel⟩
theorem gw_174 : ((Jvm.Cond.code ({ cls := "TallyWax", name := "passOneYear", desc := "()I" } : Jvm.MethodName) prog_1_method_43_code (7 : Nat) (Option.some Jvm.ClassFile.FieldType.int)) : Cond) ∈ lw_tbl ∧ goodWord (Jvm.Cond.code ({ cls := "TallyWax", name := "passOneYear", desc := "()I" } : Jvm.MethodName) prog_1_method_43_code (7 : Nat) (Option.some Jvm.ClassFile.FieldType.int)) = true := ⟨List.mem_of_getElem? (i := 198) (by decide +kernel), by decide +kernel⟩
theorem k_RX3_136 : lkV RX3 136 yX3_passOneYear cX3_passOneYear 7 (Option.some FieldType.int) 0 := ⟨tw_171, tw_173, twp_1, tw_1, gw_174, ⟨⟨by decide +kernel, by decide +kernel⟩, by decide +kernel⟩⟩
theorem twp_2 : tw (.selects "TallyWax" ({ cls := "TallyWax", name := "heatAfter", desc := "(I)I" } : Jvm.MethodName) ({ cls := "TallyWax", name := "heatAfter", desc := "(I)I" } : Jvm.MethodName)) := ⟨List.mem_of_getElem? (i := 2) (by decide +kernel), by decide +kernel⟩
theorem tw_175 : tw (Jvm.Cond.methodLink "TallyWax" (233 : Nat) ({ cls := "TallyWax", name := "heatAfter", desc := "(I)I" } : Jvm.MethodName)) := ⟨List.mem_of_getElem? (i := 199) (by decide +kernel), by decide +kernel⟩
theorem tw_177 : tw (Jvm.Cond.instanceMethod ({ cls := "TallyWax", name := "heatAfter", desc := "(I)I" } : Jvm.MethodName)) := ⟨List.mem_of_getElem? (i := 201) (by decide +kernel), by decide +kernel⟩
theorem gw_178 : ((Jvm.Cond.code ({ cls := "TallyWax", name := "heatAfter", desc := "(I)I" } : Jvm.MethodName) prog_1_method_44_code (2 : Nat) (Option.some Jvm.ClassFile.FieldType.int)) : Cond) ∈ lw_tbl ∧ goodWord (Jvm.Cond.code ({ cls := "TallyWax", name := "heatAfter", desc := "(I)I" } : Jvm.MethodName) prog_1_method_44_code (2 : Nat) (Option.some Jvm.ClassFile.FieldType.int)) = true := ⟨List.mem_of_getElem? (i := 202) (by decide +kernel), by decide +kernel⟩
theorem k_RX3_233 : lkV RX3 233 yX3_heatAfter cX3_heatAfter 2 (Option.some FieldType.int) 1 := ⟨tw_175, tw_177, twp_2, tw_1, gw_178, ⟨⟨by decide +kernel, by decide +kernel⟩, by decide +kernel⟩⟩
theorem tw_11 : tw (Jvm.Cond.initialized "java/lang/Math") := ⟨List.mem_of_getElem? (i := 35) (by decide +kernel), by decide +kernel⟩
theorem tw_179 : tw (Jvm.Cond.methodLink "TallyWax" (239 : Nat) ({ cls := "java/lang/Math", name := "floorMod", desc := "(II)I" } : Jvm.MethodName)) := ⟨List.mem_of_getElem? (i := 203) (by decide +kernel), by decide +kernel⟩
theorem tw_180 : tw (Jvm.Cond.static ({ cls := "java/lang/Math", name := "floorMod", desc := "(II)I" } : Jvm.MethodName)) := ⟨List.mem_of_getElem? (i := 204) (by decide +kernel), by decide +kernel⟩
theorem gw_181 : ((Jvm.Cond.code ({ cls := "java/lang/Math", name := "floorMod", desc := "(II)I" } : Jvm.MethodName) prog_13_method_50_code (3 : Nat) (Option.some Jvm.ClassFile.FieldType.int)) : Cond) ∈ lw_tbl ∧ goodWord (Jvm.Cond.code ({ cls := "java/lang/Math", name := "floorMod", desc := "(II)I" } : Jvm.MethodName) prog_13_method_50_code (3 : Nat) (Option.some Jvm.ClassFile.FieldType.int)) = true := ⟨List.mem_of_getElem? (i := 205) (by decide +kernel), by decide +kernel⟩
theorem k_RX3_239 : lkS RX3 239 yJ9_floorMod_7cf53 cJ9_floorMod_7cf53 3 (Option.some FieldType.int) 2 := ⟨tw_179, tw_180, tw_11, gw_181, ⟨⟨by decide +kernel, by decide +kernel⟩, by decide +kernel⟩⟩
theorem twp_3 : tw (.selects "TallyWax$Tablet" ({ cls := "TallyWax$Tablet", name := "meltsAt", desc := "(I)Z" } : Jvm.MethodName) ({ cls := "TallyWax$Tablet", name := "meltsAt", desc := "(I)Z" } : Jvm.MethodName)) := ⟨List.mem_of_getElem? (i := 3) (by decide +kernel), by decide +kernel⟩
theorem tw_182 : tw (Jvm.Cond.methodLinkNest "TallyWax" (236 : Nat) ({ cls := "TallyWax$Tablet", name := "meltsAt", desc := "(I)Z" } : Jvm.MethodName) "TallyWax") := ⟨List.mem_of_getElem? (i := 206) (by decide +kernel), by decide +kernel⟩
theorem tw_184 : tw (Jvm.Cond.instanceMethod ({ cls := "TallyWax$Tablet", name := "meltsAt", desc := "(I)Z" } : Jvm.MethodName)) := ⟨List.mem_of_getElem? (i := 208) (by decide +kernel), by decide +kernel⟩
theorem gw_186 : ((Jvm.Cond.code ({ cls := "TallyWax$Tablet", name := "meltsAt", desc := "(I)Z" } : Jvm.MethodName) prog_4_method_2_code (2 : Nat) (Option.some Jvm.ClassFile.FieldType.boolean)) : Cond) ∈ lw_tbl ∧ goodWord (Jvm.Cond.code ({ cls := "TallyWax$Tablet", name := "meltsAt", desc := "(I)Z" } : Jvm.MethodName) prog_4_method_2_code (2 : Nat) (Option.some Jvm.ClassFile.FieldType.boolean)) = true := ⟨List.mem_of_getElem? (i := 210) (by decide +kernel), by decide +kernel⟩
theorem k_RX3_236 : lkVN RX3 236 yX2_meltsAt cX2_meltsAt 2 (Option.some FieldType.boolean) 1 := ⟨⟨_, tw_182⟩, tw_184, twp_3, tw_10, gw_186, ⟨⟨by decide +kernel, by decide +kernel⟩, by decide +kernel⟩⟩
theorem tw_189 : tw (Jvm.Cond.selects "TallyWax" ({ cls := "TallyWax", name := "year", desc := "()I" } : Jvm.MethodName) ({ cls := "TallyWax", name := "year", desc := "()I" } : Jvm.MethodName)) := ⟨List.mem_of_getElem? (i := 213) (by decide +kernel), by decide +kernel⟩
theorem tw_187 : tw (Jvm.Cond.methodLink "TallyWaxLaw" (164 : Nat) ({ cls := "TallyWax", name := "year", desc := "()I" } : Jvm.MethodName)) := ⟨List.mem_of_getElem? (i := 211) (by decide +kernel), by decide +kernel⟩
theorem tw_188 : tw (Jvm.Cond.instanceMethod ({ cls := "TallyWax", name := "year", desc := "()I" } : Jvm.MethodName)) := ⟨List.mem_of_getElem? (i := 212) (by decide +kernel), by decide +kernel⟩
theorem gw_190 : ((Jvm.Cond.code ({ cls := "TallyWax", name := "year", desc := "()I" } : Jvm.MethodName) prog_1_method_11_code (1 : Nat) (Option.some Jvm.ClassFile.FieldType.int)) : Cond) ∈ lw_tbl ∧ goodWord (Jvm.Cond.code ({ cls := "TallyWax", name := "year", desc := "()I" } : Jvm.MethodName) prog_1_method_11_code (1 : Nat) (Option.some Jvm.ClassFile.FieldType.int)) = true := ⟨List.mem_of_getElem? (i := 214) (by decide +kernel), by decide +kernel⟩
theorem k_RL_164 : lkV RL 164 yX3_year cX3_year 1 (Option.some FieldType.int) 0 := ⟨tw_187, tw_188, tw_189, tw_1, gw_190, ⟨⟨by decide +kernel, by decide +kernel⟩, by decide +kernel⟩⟩
theorem tw_193 : tw (Jvm.Cond.selects "TallyWax" ({ cls := "TallyWax", name := "tablets", desc := "()I" } : Jvm.MethodName) ({ cls := "TallyWax", name := "tablets", desc := "()I" } : Jvm.MethodName)) := ⟨List.mem_of_getElem? (i := 217) (by decide +kernel), by decide +kernel⟩
theorem tw_191 : tw (Jvm.Cond.methodLink "TallyWaxLaw" (101 : Nat) ({ cls := "TallyWax", name := "tablets", desc := "()I" } : Jvm.MethodName)) := ⟨List.mem_of_getElem? (i := 215) (by decide +kernel), by decide +kernel⟩
theorem tw_192 : tw (Jvm.Cond.instanceMethod ({ cls := "TallyWax", name := "tablets", desc := "()I" } : Jvm.MethodName)) := ⟨List.mem_of_getElem? (i := 216) (by decide +kernel), by decide +kernel⟩
theorem gw_194 : ((Jvm.Cond.code ({ cls := "TallyWax", name := "tablets", desc := "()I" } : Jvm.MethodName) prog_1_method_12_code (1 : Nat) (Option.some Jvm.ClassFile.FieldType.int)) : Cond) ∈ lw_tbl ∧ goodWord (Jvm.Cond.code ({ cls := "TallyWax", name := "tablets", desc := "()I" } : Jvm.MethodName) prog_1_method_12_code (1 : Nat) (Option.some Jvm.ClassFile.FieldType.int)) = true := ⟨List.mem_of_getElem? (i := 218) (by decide +kernel), by decide +kernel⟩
theorem k_RL_101 : lkV RL 101 yX3_tablets cX3_tablets 1 (Option.some FieldType.int) 0 := ⟨tw_191, tw_192, tw_193, tw_1, gw_194, ⟨⟨by decide +kernel, by decide +kernel⟩, by decide +kernel⟩⟩
theorem tw_197 : tw (Jvm.Cond.selects "TallyWax" ({ cls := "TallyWax", name := "lines", desc := "()I" } : Jvm.MethodName) ({ cls := "TallyWax", name := "lines", desc := "()I" } : Jvm.MethodName)) := ⟨List.mem_of_getElem? (i := 221) (by decide +kernel), by decide +kernel⟩
theorem tw_195 : tw (Jvm.Cond.methodLink "TallyWaxLaw" (151 : Nat) ({ cls := "TallyWax", name := "lines", desc := "()I" } : Jvm.MethodName)) := ⟨List.mem_of_getElem? (i := 219) (by decide +kernel), by decide +kernel⟩
theorem tw_196 : tw (Jvm.Cond.instanceMethod ({ cls := "TallyWax", name := "lines", desc := "()I" } : Jvm.MethodName)) := ⟨List.mem_of_getElem? (i := 220) (by decide +kernel), by decide +kernel⟩
theorem gw_198 : ((Jvm.Cond.code ({ cls := "TallyWax", name := "lines", desc := "()I" } : Jvm.MethodName) prog_1_method_13_code (6 : Nat) (Option.some Jvm.ClassFile.FieldType.int)) : Cond) ∈ lw_tbl ∧ goodWord (Jvm.Cond.code ({ cls := "TallyWax", name := "lines", desc := "()I" } : Jvm.MethodName) prog_1_method_13_code (6 : Nat) (Option.some Jvm.ClassFile.FieldType.int)) = true := ⟨List.mem_of_getElem? (i := 222) (by decide +kernel), by decide +kernel⟩
theorem k_RL_151 : lkV RL 151 yX3_lines cX3_lines 6 (Option.some FieldType.int) 0 := ⟨tw_195, tw_196, tw_197, tw_1, gw_198, ⟨⟨by decide +kernel, by decide +kernel⟩, by decide +kernel⟩⟩
theorem tw_201 : tw (Jvm.Cond.selects "TallyWax" ({ cls := "TallyWax", name := "melted", desc := "()I" } : Jvm.MethodName) ({ cls := "TallyWax", name := "melted", desc := "()I" } : Jvm.MethodName)) := ⟨List.mem_of_getElem? (i := 225) (by decide +kernel), by decide +kernel⟩
theorem tw_199 : tw (Jvm.Cond.methodLink "TallyWaxLaw" (167 : Nat) ({ cls := "TallyWax", name := "melted", desc := "()I" } : Jvm.MethodName)) := ⟨List.mem_of_getElem? (i := 223) (by decide +kernel), by decide +kernel⟩
theorem tw_200 : tw (Jvm.Cond.instanceMethod ({ cls := "TallyWax", name := "melted", desc := "()I" } : Jvm.MethodName)) := ⟨List.mem_of_getElem? (i := 224) (by decide +kernel), by decide +kernel⟩
theorem gw_202 : ((Jvm.Cond.code ({ cls := "TallyWax", name := "melted", desc := "()I" } : Jvm.MethodName) prog_1_method_14_code (1 : Nat) (Option.some Jvm.ClassFile.FieldType.int)) : Cond) ∈ lw_tbl ∧ goodWord (Jvm.Cond.code ({ cls := "TallyWax", name := "melted", desc := "()I" } : Jvm.MethodName) prog_1_method_14_code (1 : Nat) (Option.some Jvm.ClassFile.FieldType.int)) = true := ⟨List.mem_of_getElem? (i := 226) (by decide +kernel), by decide +kernel⟩
theorem k_RL_167 : lkV RL 167 yX3_melted cX3_melted 1 (Option.some FieldType.int) 0 := ⟨tw_199, tw_200, tw_201, tw_1, gw_202, ⟨⟨by decide +kernel, by decide +kernel⟩, by decide +kernel⟩⟩
theorem tw_205 : tw (Jvm.Cond.selects "TallyWax" ({ cls := "TallyWax", name := "denied", desc := "()I" } : Jvm.MethodName) ({ cls := "TallyWax", name := "denied", desc := "()I" } : Jvm.MethodName)) := ⟨List.mem_of_getElem? (i := 229) (by decide +kernel), by decide +kernel⟩
theorem tw_203 : tw (Jvm.Cond.methodLink "TallyWaxLaw" (173 : Nat) ({ cls := "TallyWax", name := "denied", desc := "()I" } : Jvm.MethodName)) := ⟨List.mem_of_getElem? (i := 227) (by decide +kernel), by decide +kernel⟩
theorem tw_204 : tw (Jvm.Cond.instanceMethod ({ cls := "TallyWax", name := "denied", desc := "()I" } : Jvm.MethodName)) := ⟨List.mem_of_getElem? (i := 228) (by decide +kernel), by decide +kernel⟩
theorem gw_206 : ((Jvm.Cond.code ({ cls := "TallyWax", name := "denied", desc := "()I" } : Jvm.MethodName) prog_1_method_15_code (1 : Nat) (Option.some Jvm.ClassFile.FieldType.int)) : Cond) ∈ lw_tbl ∧ goodWord (Jvm.Cond.code ({ cls := "TallyWax", name := "denied", desc := "()I" } : Jvm.MethodName) prog_1_method_15_code (1 : Nat) (Option.some Jvm.ClassFile.FieldType.int)) = true := ⟨List.mem_of_getElem? (i := 230) (by decide +kernel), by decide +kernel⟩
theorem k_RL_173 : lkV RL 173 yX3_denied cX3_denied 1 (Option.some FieldType.int) 0 := ⟨tw_203, tw_204, tw_205, tw_1, gw_206, ⟨⟨by decide +kernel, by decide +kernel⟩, by decide +kernel⟩⟩
theorem tw_209 : tw (Jvm.Cond.selects "TallyWax" ({ cls := "TallyWax", name := "isThere", desc := "(I)Z" } : Jvm.MethodName) ({ cls := "TallyWax", name := "isThere", desc := "(I)Z" } : Jvm.MethodName)) := ⟨List.mem_of_getElem? (i := 233) (by decide +kernel), by decide +kernel⟩
theorem tw_207 : tw (Jvm.Cond.methodLink "TallyWaxLaw" (148 : Nat) ({ cls := "TallyWax", name := "isThere", desc := "(I)Z" } : Jvm.MethodName)) := ⟨List.mem_of_getElem? (i := 231) (by decide +kernel), by decide +kernel⟩
theorem tw_208 : tw (Jvm.Cond.instanceMethod ({ cls := "TallyWax", name := "isThere", desc := "(I)Z" } : Jvm.MethodName)) := ⟨List.mem_of_getElem? (i := 232) (by decide +kernel), by decide +kernel⟩
theorem gw_210 : ((Jvm.Cond.code ({ cls := "TallyWax", name := "isThere", desc := "(I)Z" } : Jvm.MethodName) prog_1_method_16_code (2 : Nat) (Option.some Jvm.ClassFile.FieldType.boolean)) : Cond) ∈ lw_tbl ∧ goodWord (Jvm.Cond.code ({ cls := "TallyWax", name := "isThere", desc := "(I)Z" } : Jvm.MethodName) prog_1_method_16_code (2 : Nat) (Option.some Jvm.ClassFile.FieldType.boolean)) = true := ⟨List.mem_of_getElem? (i := 234) (by decide +kernel), by decide +kernel⟩
theorem k_RL_148 : lkV RL 148 yX3_isThere cX3_isThere 2 (Option.some FieldType.boolean) 1 := ⟨tw_207, tw_208, tw_209, tw_1, gw_210, ⟨⟨by decide +kernel, by decide +kernel⟩, by decide +kernel⟩⟩
theorem tw_211 : tw (Jvm.Cond.methodLink "TallyWax" (60 : Nat) ({ cls := "TallyWax", name := "checkPerson", desc := "(I)V" } : Jvm.MethodName)) := ⟨List.mem_of_getElem? (i := 235) (by decide +kernel), by decide +kernel⟩
theorem tw_212 : tw (Jvm.Cond.static ({ cls := "TallyWax", name := "checkPerson", desc := "(I)V" } : Jvm.MethodName)) := ⟨List.mem_of_getElem? (i := 236) (by decide +kernel), by decide +kernel⟩
theorem gw_213 : ((Jvm.Cond.code ({ cls := "TallyWax", name := "checkPerson", desc := "(I)V" } : Jvm.MethodName) prog_1_method_40_code (1 : Nat) (Option.none : Option Jvm.ClassFile.FieldType)) : Cond) ∈ lw_tbl ∧ goodWord (Jvm.Cond.code ({ cls := "TallyWax", name := "checkPerson", desc := "(I)V" } : Jvm.MethodName) prog_1_method_40_code (1 : Nat) (Option.none : Option Jvm.ClassFile.FieldType)) = true := ⟨List.mem_of_getElem? (i := 237) (by decide +kernel), by decide +kernel⟩
theorem k_RX3_60 : lkS RX3 60 yX3_checkPerson cX3_checkPerson 1 (Option.none : Option FieldType) 1 := ⟨tw_211, tw_212, tw_1, gw_213, ⟨⟨by decide +kernel, by decide +kernel⟩, by decide +kernel⟩⟩
theorem tw_214 : tw (Jvm.Cond.methodLink "TallyWax" (226 : Nat) ({ cls := "TallyWax", name := "isPerson", desc := "(I)Z" } : Jvm.MethodName)) := ⟨List.mem_of_getElem? (i := 238) (by decide +kernel), by decide +kernel⟩
theorem tw_215 : tw (Jvm.Cond.static ({ cls := "TallyWax", name := "isPerson", desc := "(I)Z" } : Jvm.MethodName)) := ⟨List.mem_of_getElem? (i := 239) (by decide +kernel), by decide +kernel⟩
theorem gw_216 : ((Jvm.Cond.code ({ cls := "TallyWax", name := "isPerson", desc := "(I)Z" } : Jvm.MethodName) prog_1_method_39_code (1 : Nat) (Option.some Jvm.ClassFile.FieldType.boolean)) : Cond) ∈ lw_tbl ∧ goodWord (Jvm.Cond.code ({ cls := "TallyWax", name := "isPerson", desc := "(I)Z" } : Jvm.MethodName) prog_1_method_39_code (1 : Nat) (Option.some Jvm.ClassFile.FieldType.boolean)) = true := ⟨List.mem_of_getElem? (i := 240) (by decide +kernel), by decide +kernel⟩
theorem k_RX3_226 : lkS RX3 226 yX3_isPerson cX3_isPerson 1 (Option.some FieldType.boolean) 1 := ⟨tw_214, tw_215, tw_1, gw_216, ⟨⟨by decide +kernel, by decide +kernel⟩, by decide +kernel⟩⟩
theorem tw_217 : tw (Jvm.Cond.classLink "TallyWax" (126 : Nat) "java/lang/IndexOutOfBoundsException") := ⟨List.mem_of_getElem? (i := 241) (by decide +kernel), by decide +kernel⟩
theorem sw_226 : ((Jvm.Cond.stringRef "TallyWax" (229 : Nat) "a person is not 0 to 7") : Cond) ∈ lw_tbl := List.mem_of_getElem? (i := 250) (by decide +kernel)
theorem tw_227 : tw (Jvm.Cond.methodLink "TallyWax" (130 : Nat) ({ cls := "java/lang/IndexOutOfBoundsException", name := "<init>", desc := "(Ljava/lang/String;)V" } : Jvm.MethodName)) := ⟨List.mem_of_getElem? (i := 251) (by decide +kernel), by decide +kernel⟩
theorem tw_235 : tw (Jvm.Cond.selects "TallyWax" ({ cls := "TallyWax", name := "linesOf", desc := "(I)I" } : Jvm.MethodName) ({ cls := "TallyWax", name := "linesOf", desc := "(I)I" } : Jvm.MethodName)) := ⟨List.mem_of_getElem? (i := 259) (by decide +kernel), by decide +kernel⟩
theorem tw_233 : tw (Jvm.Cond.methodLink "TallyWaxLaw" (105 : Nat) ({ cls := "TallyWax", name := "linesOf", desc := "(I)I" } : Jvm.MethodName)) := ⟨List.mem_of_getElem? (i := 257) (by decide +kernel), by decide +kernel⟩
theorem tw_234 : tw (Jvm.Cond.instanceMethod ({ cls := "TallyWax", name := "linesOf", desc := "(I)I" } : Jvm.MethodName)) := ⟨List.mem_of_getElem? (i := 258) (by decide +kernel), by decide +kernel⟩
theorem gw_236 : ((Jvm.Cond.code ({ cls := "TallyWax", name := "linesOf", desc := "(I)I" } : Jvm.MethodName) prog_1_method_17_code (2 : Nat) (Option.some Jvm.ClassFile.FieldType.int)) : Cond) ∈ lw_tbl ∧ goodWord (Jvm.Cond.code ({ cls := "TallyWax", name := "linesOf", desc := "(I)I" } : Jvm.MethodName) prog_1_method_17_code (2 : Nat) (Option.some Jvm.ClassFile.FieldType.int)) = true := ⟨List.mem_of_getElem? (i := 260) (by decide +kernel), by decide +kernel⟩
theorem k_RL_105 : lkV RL 105 yX3_linesOf cX3_linesOf 2 (Option.some FieldType.int) 1 := ⟨tw_233, tw_234, tw_235, tw_1, gw_236, ⟨⟨by decide +kernel, by decide +kernel⟩, by decide +kernel⟩⟩
theorem twp_4 : tw (.selects "TallyWax" ({ cls := "TallyWax", name := "tabletAt", desc := "(I)LTallyWax$Tablet;" } : Jvm.MethodName) ({ cls := "TallyWax", name := "tabletAt", desc := "(I)LTallyWax$Tablet;" } : Jvm.MethodName)) := ⟨List.mem_of_getElem? (i := 4) (by decide +kernel), by decide +kernel⟩
theorem tw_237 : tw (Jvm.Cond.methodLink "TallyWax" (52 : Nat) ({ cls := "TallyWax", name := "tabletAt", desc := "(I)LTallyWax$Tablet;" } : Jvm.MethodName)) := ⟨List.mem_of_getElem? (i := 261) (by decide +kernel), by decide +kernel⟩
theorem tw_239 : tw (Jvm.Cond.instanceMethod ({ cls := "TallyWax", name := "tabletAt", desc := "(I)LTallyWax$Tablet;" } : Jvm.MethodName)) := ⟨List.mem_of_getElem? (i := 263) (by decide +kernel), by decide +kernel⟩
theorem gw_240 : ((Jvm.Cond.code ({ cls := "TallyWax", name := "tabletAt", desc := "(I)LTallyWax$Tablet;" } : Jvm.MethodName) prog_1_method_37_code (3 : Nat) (Option.some (Jvm.ClassFile.FieldType.object "TallyWax$Tablet"))) : Cond) ∈ lw_tbl ∧ goodWord (Jvm.Cond.code ({ cls := "TallyWax", name := "tabletAt", desc := "(I)LTallyWax$Tablet;" } : Jvm.MethodName) prog_1_method_37_code (3 : Nat) (Option.some (Jvm.ClassFile.FieldType.object "TallyWax$Tablet"))) = true := ⟨List.mem_of_getElem? (i := 264) (by decide +kernel), by decide +kernel⟩
theorem k_RX3_52 : lkV RX3 52 yX3_tabletAt cX3_tabletAt 3 (Option.some (FieldType.object "TallyWax$Tablet")) 1 := ⟨tw_237, tw_239, twp_4, tw_1, gw_240, ⟨⟨by decide +kernel, by decide +kernel⟩, by decide +kernel⟩⟩
theorem sw_241 : ((Jvm.Cond.stringRef "TallyWax" (222 : Nat) "there is no such tablet") : Cond) ∈ lw_tbl := List.mem_of_getElem? (i := 265) (by decide +kernel)
theorem tw_244 : tw (Jvm.Cond.selects "TallyWax" ({ cls := "TallyWax", name := "isInCellar", desc := "(I)Z" } : Jvm.MethodName) ({ cls := "TallyWax", name := "isInCellar", desc := "(I)Z" } : Jvm.MethodName)) := ⟨List.mem_of_getElem? (i := 268) (by decide +kernel), by decide +kernel⟩
theorem tw_242 : tw (Jvm.Cond.methodLink "TallyWaxLaw" (117 : Nat) ({ cls := "TallyWax", name := "isInCellar", desc := "(I)Z" } : Jvm.MethodName)) := ⟨List.mem_of_getElem? (i := 266) (by decide +kernel), by decide +kernel⟩
theorem tw_243 : tw (Jvm.Cond.instanceMethod ({ cls := "TallyWax", name := "isInCellar", desc := "(I)Z" } : Jvm.MethodName)) := ⟨List.mem_of_getElem? (i := 267) (by decide +kernel), by decide +kernel⟩
theorem gw_245 : ((Jvm.Cond.code ({ cls := "TallyWax", name := "isInCellar", desc := "(I)Z" } : Jvm.MethodName) prog_1_method_18_code (2 : Nat) (Option.some Jvm.ClassFile.FieldType.boolean)) : Cond) ∈ lw_tbl ∧ goodWord (Jvm.Cond.code ({ cls := "TallyWax", name := "isInCellar", desc := "(I)Z" } : Jvm.MethodName) prog_1_method_18_code (2 : Nat) (Option.some Jvm.ClassFile.FieldType.boolean)) = true := ⟨List.mem_of_getElem? (i := 269) (by decide +kernel), by decide +kernel⟩
theorem k_RL_117 : lkV RL 117 yX3_isInCellar cX3_isInCellar 2 (Option.some FieldType.boolean) 1 := ⟨tw_242, tw_243, tw_244, tw_1, gw_245, ⟨⟨by decide +kernel, by decide +kernel⟩, by decide +kernel⟩⟩
theorem tw_248 : tw (Jvm.Cond.selects "TallyWax" ({ cls := "TallyWax", name := "debtorOf", desc := "(II)I" } : Jvm.MethodName) ({ cls := "TallyWax", name := "debtorOf", desc := "(II)I" } : Jvm.MethodName)) := ⟨List.mem_of_getElem? (i := 272) (by decide +kernel), by decide +kernel⟩
theorem tw_246 : tw (Jvm.Cond.methodLink "TallyWaxLaw" (120 : Nat) ({ cls := "TallyWax", name := "debtorOf", desc := "(II)I" } : Jvm.MethodName)) := ⟨List.mem_of_getElem? (i := 270) (by decide +kernel), by decide +kernel⟩
theorem tw_247 : tw (Jvm.Cond.instanceMethod ({ cls := "TallyWax", name := "debtorOf", desc := "(II)I" } : Jvm.MethodName)) := ⟨List.mem_of_getElem? (i := 271) (by decide +kernel), by decide +kernel⟩
theorem gw_249 : ((Jvm.Cond.code ({ cls := "TallyWax", name := "debtorOf", desc := "(II)I" } : Jvm.MethodName) prog_1_method_19_code (3 : Nat) (Option.some Jvm.ClassFile.FieldType.int)) : Cond) ∈ lw_tbl ∧ goodWord (Jvm.Cond.code ({ cls := "TallyWax", name := "debtorOf", desc := "(II)I" } : Jvm.MethodName) prog_1_method_19_code (3 : Nat) (Option.some Jvm.ClassFile.FieldType.int)) = true := ⟨List.mem_of_getElem? (i := 273) (by decide +kernel), by decide +kernel⟩
theorem k_RL_120 : lkV RL 120 yX3_debtorOf cX3_debtorOf 3 (Option.some FieldType.int) 2 := ⟨tw_246, tw_247, tw_248, tw_1, gw_249, ⟨⟨by decide +kernel, by decide +kernel⟩, by decide +kernel⟩⟩
theorem twp_5 : tw (.selects "TallyWax" ({ cls := "TallyWax", name := "linesWith", desc := "(II)LTallyWax$LineList;" } : Jvm.MethodName) ({ cls := "TallyWax", name := "linesWith", desc := "(II)LTallyWax$LineList;" } : Jvm.MethodName)) := ⟨List.mem_of_getElem? (i := 5) (by decide +kernel), by decide +kernel⟩
theorem tw_250 : tw (Jvm.Cond.methodLink "TallyWax" (84 : Nat) ({ cls := "TallyWax", name := "linesWith", desc := "(II)LTallyWax$LineList;" } : Jvm.MethodName)) := ⟨List.mem_of_getElem? (i := 274) (by decide +kernel), by decide +kernel⟩
theorem tw_252 : tw (Jvm.Cond.instanceMethod ({ cls := "TallyWax", name := "linesWith", desc := "(II)LTallyWax$LineList;" } : Jvm.MethodName)) := ⟨List.mem_of_getElem? (i := 276) (by decide +kernel), by decide +kernel⟩
theorem gw_253 : ((Jvm.Cond.code ({ cls := "TallyWax", name := "linesWith", desc := "(II)LTallyWax$LineList;" } : Jvm.MethodName) prog_1_method_38_code (4 : Nat) (Option.some (Jvm.ClassFile.FieldType.object "TallyWax$LineList"))) : Cond) ∈ lw_tbl ∧ goodWord (Jvm.Cond.code ({ cls := "TallyWax", name := "linesWith", desc := "(II)LTallyWax$LineList;" } : Jvm.MethodName) prog_1_method_38_code (4 : Nat) (Option.some (Jvm.ClassFile.FieldType.object "TallyWax$LineList"))) = true := ⟨List.mem_of_getElem? (i := 277) (by decide +kernel), by decide +kernel⟩
theorem k_RX3_84 : lkV RX3 84 yX3_linesWith cX3_linesWith 4 (Option.some (FieldType.object "TallyWax$LineList")) 2 := ⟨tw_250, tw_252, twp_5, tw_1, gw_253, ⟨⟨by decide +kernel, by decide +kernel⟩, by decide +kernel⟩⟩
theorem sw_254 : ((Jvm.Cond.stringRef "TallyWax" (224 : Nat) "the tablet has no such line") : Cond) ∈ lw_tbl := List.mem_of_getElem? (i := 278) (by decide +kernel)
theorem tw_257 : tw (Jvm.Cond.selects "TallyWax" ({ cls := "TallyWax", name := "creditorOf", desc := "(II)I" } : Jvm.MethodName) ({ cls := "TallyWax", name := "creditorOf", desc := "(II)I" } : Jvm.MethodName)) := ⟨List.mem_of_getElem? (i := 281) (by decide +kernel), by decide +kernel⟩
theorem tw_255 : tw (Jvm.Cond.methodLink "TallyWaxLaw" (123 : Nat) ({ cls := "TallyWax", name := "creditorOf", desc := "(II)I" } : Jvm.MethodName)) := ⟨List.mem_of_getElem? (i := 279) (by decide +kernel), by decide +kernel⟩
theorem tw_256 : tw (Jvm.Cond.instanceMethod ({ cls := "TallyWax", name := "creditorOf", desc := "(II)I" } : Jvm.MethodName)) := ⟨List.mem_of_getElem? (i := 280) (by decide +kernel), by decide +kernel⟩
theorem gw_258 : ((Jvm.Cond.code ({ cls := "TallyWax", name := "creditorOf", desc := "(II)I" } : Jvm.MethodName) prog_1_method_20_code (3 : Nat) (Option.some Jvm.ClassFile.FieldType.int)) : Cond) ∈ lw_tbl ∧ goodWord (Jvm.Cond.code ({ cls := "TallyWax", name := "creditorOf", desc := "(II)I" } : Jvm.MethodName) prog_1_method_20_code (3 : Nat) (Option.some Jvm.ClassFile.FieldType.int)) = true := ⟨List.mem_of_getElem? (i := 282) (by decide +kernel), by decide +kernel⟩
theorem k_RL_123 : lkV RL 123 yX3_creditorOf cX3_creditorOf 3 (Option.some FieldType.int) 2 := ⟨tw_255, tw_256, tw_257, tw_1, gw_258, ⟨⟨by decide +kernel, by decide +kernel⟩, by decide +kernel⟩⟩
theorem tw_261 : tw (Jvm.Cond.selects "TallyWax" ({ cls := "TallyWax", name := "amountOf", desc := "(II)I" } : Jvm.MethodName) ({ cls := "TallyWax", name := "amountOf", desc := "(II)I" } : Jvm.MethodName)) := ⟨List.mem_of_getElem? (i := 285) (by decide +kernel), by decide +kernel⟩
theorem tw_259 : tw (Jvm.Cond.methodLink "TallyWaxLaw" (126 : Nat) ({ cls := "TallyWax", name := "amountOf", desc := "(II)I" } : Jvm.MethodName)) := ⟨List.mem_of_getElem? (i := 283) (by decide +kernel), by decide +kernel⟩
theorem tw_260 : tw (Jvm.Cond.instanceMethod ({ cls := "TallyWax", name := "amountOf", desc := "(II)I" } : Jvm.MethodName)) := ⟨List.mem_of_getElem? (i := 284) (by decide +kernel), by decide +kernel⟩
theorem gw_262 : ((Jvm.Cond.code ({ cls := "TallyWax", name := "amountOf", desc := "(II)I" } : Jvm.MethodName) prog_1_method_21_code (3 : Nat) (Option.some Jvm.ClassFile.FieldType.int)) : Cond) ∈ lw_tbl ∧ goodWord (Jvm.Cond.code ({ cls := "TallyWax", name := "amountOf", desc := "(II)I" } : Jvm.MethodName) prog_1_method_21_code (3 : Nat) (Option.some Jvm.ClassFile.FieldType.int)) = true := ⟨List.mem_of_getElem? (i := 286) (by decide +kernel), by decide +kernel⟩
theorem k_RL_126 : lkV RL 126 yX3_amountOf cX3_amountOf 3 (Option.some FieldType.int) 2 := ⟨tw_259, tw_260, tw_261, tw_1, gw_262, ⟨⟨by decide +kernel, by decide +kernel⟩, by decide +kernel⟩⟩
theorem tw_265 : tw (Jvm.Cond.selects "TallyWax" ({ cls := "TallyWax", name := "isWitnessed", desc := "(II)Z" } : Jvm.MethodName) ({ cls := "TallyWax", name := "isWitnessed", desc := "(II)Z" } : Jvm.MethodName)) := ⟨List.mem_of_getElem? (i := 289) (by decide +kernel), by decide +kernel⟩
theorem tw_263 : tw (Jvm.Cond.methodLink "TallyWaxLaw" (129 : Nat) ({ cls := "TallyWax", name := "isWitnessed", desc := "(II)Z" } : Jvm.MethodName)) := ⟨List.mem_of_getElem? (i := 287) (by decide +kernel), by decide +kernel⟩
theorem tw_264 : tw (Jvm.Cond.instanceMethod ({ cls := "TallyWax", name := "isWitnessed", desc := "(II)Z" } : Jvm.MethodName)) := ⟨List.mem_of_getElem? (i := 288) (by decide +kernel), by decide +kernel⟩
theorem gw_266 : ((Jvm.Cond.code ({ cls := "TallyWax", name := "isWitnessed", desc := "(II)Z" } : Jvm.MethodName) prog_1_method_22_code (3 : Nat) (Option.some Jvm.ClassFile.FieldType.boolean)) : Cond) ∈ lw_tbl ∧ goodWord (Jvm.Cond.code ({ cls := "TallyWax", name := "isWitnessed", desc := "(II)Z" } : Jvm.MethodName) prog_1_method_22_code (3 : Nat) (Option.some Jvm.ClassFile.FieldType.boolean)) = true := ⟨List.mem_of_getElem? (i := 290) (by decide +kernel), by decide +kernel⟩
theorem k_RL_129 : lkV RL 129 yX3_isWitnessed cX3_isWitnessed 3 (Option.some FieldType.boolean) 2 := ⟨tw_263, tw_264, tw_265, tw_1, gw_266, ⟨⟨by decide +kernel, by decide +kernel⟩, by decide +kernel⟩⟩
theorem twp_6 : tw (.selects "TallyWax" ({ cls := "TallyWax", name := "isPresent", desc := "(I)Z" } : Jvm.MethodName) ({ cls := "TallyWax", name := "isPresent", desc := "(I)Z" } : Jvm.MethodName)) := ⟨List.mem_of_getElem? (i := 6) (by decide +kernel), by decide +kernel⟩
theorem tw_267 : tw (Jvm.Cond.methodLink "TallyWax" (74 : Nat) ({ cls := "TallyWax", name := "isPresent", desc := "(I)Z" } : Jvm.MethodName)) := ⟨List.mem_of_getElem? (i := 291) (by decide +kernel), by decide +kernel⟩
theorem tw_269 : tw (Jvm.Cond.instanceMethod ({ cls := "TallyWax", name := "isPresent", desc := "(I)Z" } : Jvm.MethodName)) := ⟨List.mem_of_getElem? (i := 293) (by decide +kernel), by decide +kernel⟩
theorem gw_270 : ((Jvm.Cond.code ({ cls := "TallyWax", name := "isPresent", desc := "(I)Z" } : Jvm.MethodName) prog_1_method_42_code (2 : Nat) (Option.some Jvm.ClassFile.FieldType.boolean)) : Cond) ∈ lw_tbl ∧ goodWord (Jvm.Cond.code ({ cls := "TallyWax", name := "isPresent", desc := "(I)Z" } : Jvm.MethodName) prog_1_method_42_code (2 : Nat) (Option.some Jvm.ClassFile.FieldType.boolean)) = true := ⟨List.mem_of_getElem? (i := 294) (by decide +kernel), by decide +kernel⟩
theorem k_RX3_74 : lkV RX3 74 yX3_isPresent cX3_isPresent 2 (Option.some FieldType.boolean) 1 := ⟨tw_267, tw_269, twp_6, tw_1, gw_270, ⟨⟨by decide +kernel, by decide +kernel⟩, by decide +kernel⟩⟩
theorem tw_273 : tw (Jvm.Cond.selects "TallyWax" ({ cls := "TallyWax", name := "has", desc := "(I)I" } : Jvm.MethodName) ({ cls := "TallyWax", name := "has", desc := "(I)I" } : Jvm.MethodName)) := ⟨List.mem_of_getElem? (i := 297) (by decide +kernel), by decide +kernel⟩
theorem tw_271 : tw (Jvm.Cond.methodLink "TallyWaxLaw" (142 : Nat) ({ cls := "TallyWax", name := "has", desc := "(I)I" } : Jvm.MethodName)) := ⟨List.mem_of_getElem? (i := 295) (by decide +kernel), by decide +kernel⟩
theorem tw_272 : tw (Jvm.Cond.instanceMethod ({ cls := "TallyWax", name := "has", desc := "(I)I" } : Jvm.MethodName)) := ⟨List.mem_of_getElem? (i := 296) (by decide +kernel), by decide +kernel⟩
theorem gw_274 : ((Jvm.Cond.code ({ cls := "TallyWax", name := "has", desc := "(I)I" } : Jvm.MethodName) prog_1_method_23_code (2 : Nat) (Option.some Jvm.ClassFile.FieldType.int)) : Cond) ∈ lw_tbl ∧ goodWord (Jvm.Cond.code ({ cls := "TallyWax", name := "has", desc := "(I)I" } : Jvm.MethodName) prog_1_method_23_code (2 : Nat) (Option.some Jvm.ClassFile.FieldType.int)) = true := ⟨List.mem_of_getElem? (i := 298) (by decide +kernel), by decide +kernel⟩
theorem k_RL_142 : lkV RL 142 yX3_has cX3_has 2 (Option.some FieldType.int) 1 := ⟨tw_271, tw_272, tw_273, tw_1, gw_274, ⟨⟨by decide +kernel, by decide +kernel⟩, by decide +kernel⟩⟩
theorem twp_7 : tw (.selects "TallyWax" ({ cls := "TallyWax", name := "balanceOf", desc := "(I)I" } : Jvm.MethodName) ({ cls := "TallyWax", name := "balanceOf", desc := "(I)I" } : Jvm.MethodName)) := ⟨List.mem_of_getElem? (i := 7) (by decide +kernel), by decide +kernel⟩
theorem tw_275 : tw (Jvm.Cond.methodLink "TallyWax" (149 : Nat) ({ cls := "TallyWax", name := "balanceOf", desc := "(I)I" } : Jvm.MethodName)) := ⟨List.mem_of_getElem? (i := 299) (by decide +kernel), by decide +kernel⟩
theorem tw_277 : tw (Jvm.Cond.instanceMethod ({ cls := "TallyWax", name := "balanceOf", desc := "(I)I" } : Jvm.MethodName)) := ⟨List.mem_of_getElem? (i := 301) (by decide +kernel), by decide +kernel⟩
theorem gw_278 : ((Jvm.Cond.code ({ cls := "TallyWax", name := "balanceOf", desc := "(I)I" } : Jvm.MethodName) prog_1_method_46_code (7 : Nat) (Option.some Jvm.ClassFile.FieldType.int)) : Cond) ∈ lw_tbl ∧ goodWord (Jvm.Cond.code ({ cls := "TallyWax", name := "balanceOf", desc := "(I)I" } : Jvm.MethodName) prog_1_method_46_code (7 : Nat) (Option.some Jvm.ClassFile.FieldType.int)) = true := ⟨List.mem_of_getElem? (i := 302) (by decide +kernel), by decide +kernel⟩
theorem k_RX3_149 : lkV RX3 149 yX3_balanceOf cX3_balanceOf 7 (Option.some FieldType.int) 1 := ⟨tw_275, tw_277, twp_7, tw_1, gw_278, ⟨⟨by decide +kernel, by decide +kernel⟩, by decide +kernel⟩⟩
theorem twp_8 : tw (.selects "TallyWax$LineList" ({ cls := "TallyWax$LineList", name := "balanceOf", desc := "(I)I" } : Jvm.MethodName) ({ cls := "TallyWax$LineList", name := "balanceOf", desc := "(I)I" } : Jvm.MethodName)) := ⟨List.mem_of_getElem? (i := 8) (by decide +kernel), by decide +kernel⟩
theorem tw_279 : tw (Jvm.Cond.methodLinkNest "TallyWax" (153 : Nat) ({ cls := "TallyWax$LineList", name := "balanceOf", desc := "(I)I" } : Jvm.MethodName) "TallyWax") := ⟨List.mem_of_getElem? (i := 303) (by decide +kernel), by decide +kernel⟩
theorem tw_281 : tw (Jvm.Cond.instanceMethod ({ cls := "TallyWax$LineList", name := "balanceOf", desc := "(I)I" } : Jvm.MethodName)) := ⟨List.mem_of_getElem? (i := 305) (by decide +kernel), by decide +kernel⟩
theorem gw_282 : ((Jvm.Cond.code ({ cls := "TallyWax$LineList", name := "balanceOf", desc := "(I)I" } : Jvm.MethodName) prog_2_method_6_code (4 : Nat) (Option.some Jvm.ClassFile.FieldType.int)) : Cond) ∈ lw_tbl ∧ goodWord (Jvm.Cond.code ({ cls := "TallyWax$LineList", name := "balanceOf", desc := "(I)I" } : Jvm.MethodName) prog_2_method_6_code (4 : Nat) (Option.some Jvm.ClassFile.FieldType.int)) = true := ⟨List.mem_of_getElem? (i := 306) (by decide +kernel), by decide +kernel⟩
theorem k_RX3_153 : lkVN RX3 153 yX0_balanceOf cX0_balanceOf 4 (Option.some FieldType.int) 1 := ⟨⟨_, tw_279⟩, tw_281, twp_8, tw_3, gw_282, ⟨⟨by decide +kernel, by decide +kernel⟩, by decide +kernel⟩⟩
theorem tw_285 : tw (Jvm.Cond.selects "TallyWax" ({ cls := "TallyWax", name := "hasOn", desc := "(II)I" } : Jvm.MethodName) ({ cls := "TallyWax", name := "hasOn", desc := "(II)I" } : Jvm.MethodName)) := ⟨List.mem_of_getElem? (i := 309) (by decide +kernel), by decide +kernel⟩
theorem tw_283 : tw (Jvm.Cond.methodLink "TallyWaxLaw" (108 : Nat) ({ cls := "TallyWax", name := "hasOn", desc := "(II)I" } : Jvm.MethodName)) := ⟨List.mem_of_getElem? (i := 307) (by decide +kernel), by decide +kernel⟩
theorem tw_284 : tw (Jvm.Cond.instanceMethod ({ cls := "TallyWax", name := "hasOn", desc := "(II)I" } : Jvm.MethodName)) := ⟨List.mem_of_getElem? (i := 308) (by decide +kernel), by decide +kernel⟩
theorem gw_286 : ((Jvm.Cond.code ({ cls := "TallyWax", name := "hasOn", desc := "(II)I" } : Jvm.MethodName) prog_1_method_24_code (4 : Nat) (Option.some Jvm.ClassFile.FieldType.int)) : Cond) ∈ lw_tbl ∧ goodWord (Jvm.Cond.code ({ cls := "TallyWax", name := "hasOn", desc := "(II)I" } : Jvm.MethodName) prog_1_method_24_code (4 : Nat) (Option.some Jvm.ClassFile.FieldType.int)) = true := ⟨List.mem_of_getElem? (i := 310) (by decide +kernel), by decide +kernel⟩
theorem k_RL_108 : lkV RL 108 yX3_hasOn cX3_hasOn 4 (Option.some FieldType.int) 2 := ⟨tw_283, tw_284, tw_285, tw_1, gw_286, ⟨⟨by decide +kernel, by decide +kernel⟩, by decide +kernel⟩⟩
theorem tw_289 : tw (Jvm.Cond.selects "TallyWax" ({ cls := "TallyWax", name := "owes", desc := "(II)I" } : Jvm.MethodName) ({ cls := "TallyWax", name := "owes", desc := "(II)I" } : Jvm.MethodName)) := ⟨List.mem_of_getElem? (i := 313) (by decide +kernel), by decide +kernel⟩
theorem tw_287 : tw (Jvm.Cond.methodLink "TallyWaxLaw" (136 : Nat) ({ cls := "TallyWax", name := "owes", desc := "(II)I" } : Jvm.MethodName)) := ⟨List.mem_of_getElem? (i := 311) (by decide +kernel), by decide +kernel⟩
theorem tw_288 : tw (Jvm.Cond.instanceMethod ({ cls := "TallyWax", name := "owes", desc := "(II)I" } : Jvm.MethodName)) := ⟨List.mem_of_getElem? (i := 312) (by decide +kernel), by decide +kernel⟩
theorem gw_290 : ((Jvm.Cond.code ({ cls := "TallyWax", name := "owes", desc := "(II)I" } : Jvm.MethodName) prog_1_method_25_code (8 : Nat) (Option.some Jvm.ClassFile.FieldType.int)) : Cond) ∈ lw_tbl ∧ goodWord (Jvm.Cond.code ({ cls := "TallyWax", name := "owes", desc := "(II)I" } : Jvm.MethodName) prog_1_method_25_code (8 : Nat) (Option.some Jvm.ClassFile.FieldType.int)) = true := ⟨List.mem_of_getElem? (i := 314) (by decide +kernel), by decide +kernel⟩
theorem k_RL_136 : lkV RL 136 yX3_owes cX3_owes 8 (Option.some FieldType.int) 2 := ⟨tw_287, tw_288, tw_289, tw_1, gw_290, ⟨⟨by decide +kernel, by decide +kernel⟩, by decide +kernel⟩⟩
theorem twp_9 : tw (.selects "TallyWax$LineList" ({ cls := "TallyWax$LineList", name := "owedBetween", desc := "(II)I" } : Jvm.MethodName) ({ cls := "TallyWax$LineList", name := "owedBetween", desc := "(II)I" } : Jvm.MethodName)) := ⟨List.mem_of_getElem? (i := 9) (by decide +kernel), by decide +kernel⟩
theorem tw_291 : tw (Jvm.Cond.methodLinkNest "TallyWax" (154 : Nat) ({ cls := "TallyWax$LineList", name := "owedBetween", desc := "(II)I" } : Jvm.MethodName) "TallyWax") := ⟨List.mem_of_getElem? (i := 315) (by decide +kernel), by decide +kernel⟩
theorem tw_293 : tw (Jvm.Cond.instanceMethod ({ cls := "TallyWax$LineList", name := "owedBetween", desc := "(II)I" } : Jvm.MethodName)) := ⟨List.mem_of_getElem? (i := 317) (by decide +kernel), by decide +kernel⟩
theorem gw_294 : ((Jvm.Cond.code ({ cls := "TallyWax$LineList", name := "owedBetween", desc := "(II)I" } : Jvm.MethodName) prog_2_method_7_code (5 : Nat) (Option.some Jvm.ClassFile.FieldType.int)) : Cond) ∈ lw_tbl ∧ goodWord (Jvm.Cond.code ({ cls := "TallyWax$LineList", name := "owedBetween", desc := "(II)I" } : Jvm.MethodName) prog_2_method_7_code (5 : Nat) (Option.some Jvm.ClassFile.FieldType.int)) = true := ⟨List.mem_of_getElem? (i := 318) (by decide +kernel), by decide +kernel⟩
theorem k_RX3_154 : lkVN RX3 154 yX0_owedBetween cX0_owedBetween 5 (Option.some FieldType.int) 2 := ⟨⟨_, tw_291⟩, tw_293, twp_9, tw_3, gw_294, ⟨⟨by decide +kernel, by decide +kernel⟩, by decide +kernel⟩⟩
theorem tw_297 : tw (Jvm.Cond.selects "TallyWax" ({ cls := "TallyWax", name := "total", desc := "()I" } : Jvm.MethodName) ({ cls := "TallyWax", name := "total", desc := "()I" } : Jvm.MethodName)) := ⟨List.mem_of_getElem? (i := 321) (by decide +kernel), by decide +kernel⟩
theorem tw_295 : tw (Jvm.Cond.methodLink "TallyWaxLaw" (153 : Nat) ({ cls := "TallyWax", name := "total", desc := "()I" } : Jvm.MethodName)) := ⟨List.mem_of_getElem? (i := 319) (by decide +kernel), by decide +kernel⟩
theorem tw_296 : tw (Jvm.Cond.instanceMethod ({ cls := "TallyWax", name := "total", desc := "()I" } : Jvm.MethodName)) := ⟨List.mem_of_getElem? (i := 320) (by decide +kernel), by decide +kernel⟩
theorem gw_298 : ((Jvm.Cond.code ({ cls := "TallyWax", name := "total", desc := "()I" } : Jvm.MethodName) prog_1_method_26_code (6 : Nat) (Option.some Jvm.ClassFile.FieldType.int)) : Cond) ∈ lw_tbl ∧ goodWord (Jvm.Cond.code ({ cls := "TallyWax", name := "total", desc := "()I" } : Jvm.MethodName) prog_1_method_26_code (6 : Nat) (Option.some Jvm.ClassFile.FieldType.int)) = true := ⟨List.mem_of_getElem? (i := 322) (by decide +kernel), by decide +kernel⟩
theorem k_RL_153 : lkV RL 153 yX3_total cX3_total 6 (Option.some FieldType.int) 0 := ⟨tw_295, tw_296, tw_297, tw_1, gw_298, ⟨⟨by decide +kernel, by decide +kernel⟩, by decide +kernel⟩⟩
theorem twp_10 : tw (.selects "TallyWax$LineList" ({ cls := "TallyWax$LineList", name := "sum", desc := "()I" } : Jvm.MethodName) ({ cls := "TallyWax$LineList", name := "sum", desc := "()I" } : Jvm.MethodName)) := ⟨List.mem_of_getElem? (i := 10) (by decide +kernel), by decide +kernel⟩
theorem tw_299 : tw (Jvm.Cond.methodLinkNest "TallyWax" (158 : Nat) ({ cls := "TallyWax$LineList", name := "sum", desc := "()I" } : Jvm.MethodName) "TallyWax") := ⟨List.mem_of_getElem? (i := 323) (by decide +kernel), by decide +kernel⟩
theorem tw_301 : tw (Jvm.Cond.instanceMethod ({ cls := "TallyWax$LineList", name := "sum", desc := "()I" } : Jvm.MethodName)) := ⟨List.mem_of_getElem? (i := 325) (by decide +kernel), by decide +kernel⟩
theorem gw_302 : ((Jvm.Cond.code ({ cls := "TallyWax$LineList", name := "sum", desc := "()I" } : Jvm.MethodName) prog_2_method_5_code (3 : Nat) (Option.some Jvm.ClassFile.FieldType.int)) : Cond) ∈ lw_tbl ∧ goodWord (Jvm.Cond.code ({ cls := "TallyWax$LineList", name := "sum", desc := "()I" } : Jvm.MethodName) prog_2_method_5_code (3 : Nat) (Option.some Jvm.ClassFile.FieldType.int)) = true := ⟨List.mem_of_getElem? (i := 326) (by decide +kernel), by decide +kernel⟩
theorem k_RX3_158 : lkVN RX3 158 yX0_sum cX0_sum 3 (Option.some FieldType.int) 0 := ⟨⟨_, tw_299⟩, tw_301, twp_10, tw_3, gw_302, ⟨⟨by decide +kernel, by decide +kernel⟩, by decide +kernel⟩⟩
theorem tw_305 : tw (Jvm.Cond.selects "TallyWax" ({ cls := "TallyWax", name := "richest", desc := "()I" } : Jvm.MethodName) ({ cls := "TallyWax", name := "richest", desc := "()I" } : Jvm.MethodName)) := ⟨List.mem_of_getElem? (i := 329) (by decide +kernel), by decide +kernel⟩
theorem tw_303 : tw (Jvm.Cond.methodLink "TallyWaxLaw" (145 : Nat) ({ cls := "TallyWax", name := "richest", desc := "()I" } : Jvm.MethodName)) := ⟨List.mem_of_getElem? (i := 327) (by decide +kernel), by decide +kernel⟩
theorem tw_304 : tw (Jvm.Cond.instanceMethod ({ cls := "TallyWax", name := "richest", desc := "()I" } : Jvm.MethodName)) := ⟨List.mem_of_getElem? (i := 328) (by decide +kernel), by decide +kernel⟩
theorem gw_306 : ((Jvm.Cond.code ({ cls := "TallyWax", name := "richest", desc := "()I" } : Jvm.MethodName) prog_1_method_27_code (5 : Nat) (Option.some Jvm.ClassFile.FieldType.int)) : Cond) ∈ lw_tbl ∧ goodWord (Jvm.Cond.code ({ cls := "TallyWax", name := "richest", desc := "()I" } : Jvm.MethodName) prog_1_method_27_code (5 : Nat) (Option.some Jvm.ClassFile.FieldType.int)) = true := ⟨List.mem_of_getElem? (i := 330) (by decide +kernel), by decide +kernel⟩
theorem k_RL_145 : lkV RL 145 yX3_richest cX3_richest 5 (Option.some FieldType.int) 0 := ⟨tw_303, tw_304, tw_305, tw_1, gw_306, ⟨⟨by decide +kernel, by decide +kernel⟩, by decide +kernel⟩⟩
theorem tw_309 : tw (Jvm.Cond.selects "TallyWax" ({ cls := "TallyWax", name := "owesAlong", desc := "(I)I" } : Jvm.MethodName) ({ cls := "TallyWax", name := "owesAlong", desc := "(I)I" } : Jvm.MethodName)) := ⟨List.mem_of_getElem? (i := 333) (by decide +kernel), by decide +kernel⟩
theorem tw_307 : tw (Jvm.Cond.methodLink "TallyWaxLaw" (133 : Nat) ({ cls := "TallyWax", name := "owesAlong", desc := "(I)I" } : Jvm.MethodName)) := ⟨List.mem_of_getElem? (i := 331) (by decide +kernel), by decide +kernel⟩
theorem tw_308 : tw (Jvm.Cond.instanceMethod ({ cls := "TallyWax", name := "owesAlong", desc := "(I)I" } : Jvm.MethodName)) := ⟨List.mem_of_getElem? (i := 332) (by decide +kernel), by decide +kernel⟩
theorem gw_310 : ((Jvm.Cond.code ({ cls := "TallyWax", name := "owesAlong", desc := "(I)I" } : Jvm.MethodName) prog_1_method_28_code (2 : Nat) (Option.some Jvm.ClassFile.FieldType.int)) : Cond) ∈ lw_tbl ∧ goodWord (Jvm.Cond.code ({ cls := "TallyWax", name := "owesAlong", desc := "(I)I" } : Jvm.MethodName) prog_1_method_28_code (2 : Nat) (Option.some Jvm.ClassFile.FieldType.int)) = true := ⟨List.mem_of_getElem? (i := 334) (by decide +kernel), by decide +kernel⟩
theorem k_RL_133 : lkV RL 133 yX3_owesAlong cX3_owesAlong 2 (Option.some FieldType.int) 1 := ⟨tw_307, tw_308, tw_309, tw_1, gw_310, ⟨⟨by decide +kernel, by decide +kernel⟩, by decide +kernel⟩⟩
theorem twp_11 : tw (.selects "TallyWax" ({ cls := "TallyWax", name := "followLines", desc := "()V" } : Jvm.MethodName) ({ cls := "TallyWax", name := "followLines", desc := "()V" } : Jvm.MethodName)) := ⟨List.mem_of_getElem? (i := 11) (by decide +kernel), by decide +kernel⟩
theorem tw_311 : tw (Jvm.Cond.methodLink "TallyWax" (161 : Nat) ({ cls := "TallyWax", name := "followLines", desc := "()V" } : Jvm.MethodName)) := ⟨List.mem_of_getElem? (i := 335) (by decide +kernel), by decide +kernel⟩
theorem tw_313 : tw (Jvm.Cond.instanceMethod ({ cls := "TallyWax", name := "followLines", desc := "()V" } : Jvm.MethodName)) := ⟨List.mem_of_getElem? (i := 337) (by decide +kernel), by decide +kernel⟩
theorem gw_314 : ((Jvm.Cond.code ({ cls := "TallyWax", name := "followLines", desc := "()V" } : Jvm.MethodName) prog_1_method_47_code (3 : Nat) (Option.none : Option Jvm.ClassFile.FieldType)) : Cond) ∈ lw_tbl ∧ goodWord (Jvm.Cond.code ({ cls := "TallyWax", name := "followLines", desc := "()V" } : Jvm.MethodName) prog_1_method_47_code (3 : Nat) (Option.none : Option Jvm.ClassFile.FieldType)) = true := ⟨List.mem_of_getElem? (i := 338) (by decide +kernel), by decide +kernel⟩
theorem k_RX3_161 : lkV RX3 161 yX3_followLines cX3_followLines 3 (Option.none : Option FieldType) 0 := ⟨tw_311, tw_313, twp_11, tw_1, gw_314, ⟨⟨by decide +kernel, by decide +kernel⟩, by decide +kernel⟩⟩
theorem twp_12 : tw (.selects "TallyWax" ({ cls := "TallyWax", name := "creditorBits", desc := "(I)I" } : Jvm.MethodName) ({ cls := "TallyWax", name := "creditorBits", desc := "(I)I" } : Jvm.MethodName)) := ⟨List.mem_of_getElem? (i := 12) (by decide +kernel), by decide +kernel⟩
theorem tw_315 : tw (Jvm.Cond.methodLink "TallyWax" (244 : Nat) ({ cls := "TallyWax", name := "creditorBits", desc := "(I)I" } : Jvm.MethodName)) := ⟨List.mem_of_getElem? (i := 339) (by decide +kernel), by decide +kernel⟩
theorem tw_317 : tw (Jvm.Cond.instanceMethod ({ cls := "TallyWax", name := "creditorBits", desc := "(I)I" } : Jvm.MethodName)) := ⟨List.mem_of_getElem? (i := 341) (by decide +kernel), by decide +kernel⟩
theorem gw_318 : ((Jvm.Cond.code ({ cls := "TallyWax", name := "creditorBits", desc := "(I)I" } : Jvm.MethodName) prog_1_method_48_code (7 : Nat) (Option.some Jvm.ClassFile.FieldType.int)) : Cond) ∈ lw_tbl ∧ goodWord (Jvm.Cond.code ({ cls := "TallyWax", name := "creditorBits", desc := "(I)I" } : Jvm.MethodName) prog_1_method_48_code (7 : Nat) (Option.some Jvm.ClassFile.FieldType.int)) = true := ⟨List.mem_of_getElem? (i := 342) (by decide +kernel), by decide +kernel⟩
theorem k_RX3_244 : lkV RX3 244 yX3_creditorBits cX3_creditorBits 7 (Option.some FieldType.int) 1 := ⟨tw_315, tw_317, twp_12, tw_1, gw_318, ⟨⟨by decide +kernel, by decide +kernel⟩, by decide +kernel⟩⟩
theorem twp_13 : tw (.selects "TallyWax$LineList" ({ cls := "TallyWax$LineList", name := "creditorBits", desc := "(I)I" } : Jvm.MethodName) ({ cls := "TallyWax$LineList", name := "creditorBits", desc := "(I)I" } : Jvm.MethodName)) := ⟨List.mem_of_getElem? (i := 13) (by decide +kernel), by decide +kernel⟩
theorem tw_319 : tw (Jvm.Cond.methodLinkNest "TallyWax" (247 : Nat) ({ cls := "TallyWax$LineList", name := "creditorBits", desc := "(I)I" } : Jvm.MethodName) "TallyWax") := ⟨List.mem_of_getElem? (i := 343) (by decide +kernel), by decide +kernel⟩
theorem tw_321 : tw (Jvm.Cond.instanceMethod ({ cls := "TallyWax$LineList", name := "creditorBits", desc := "(I)I" } : Jvm.MethodName)) := ⟨List.mem_of_getElem? (i := 345) (by decide +kernel), by decide +kernel⟩
theorem gw_322 : ((Jvm.Cond.code ({ cls := "TallyWax$LineList", name := "creditorBits", desc := "(I)I" } : Jvm.MethodName) prog_2_method_9_code (4 : Nat) (Option.some Jvm.ClassFile.FieldType.int)) : Cond) ∈ lw_tbl ∧ goodWord (Jvm.Cond.code ({ cls := "TallyWax$LineList", name := "creditorBits", desc := "(I)I" } : Jvm.MethodName) prog_2_method_9_code (4 : Nat) (Option.some Jvm.ClassFile.FieldType.int)) = true := ⟨List.mem_of_getElem? (i := 346) (by decide +kernel), by decide +kernel⟩
theorem k_RX3_247 : lkVN RX3 247 yX0_creditorBits cX0_creditorBits 4 (Option.some FieldType.int) 1 := ⟨⟨_, tw_319⟩, tw_321, twp_13, tw_3, gw_322, ⟨⟨by decide +kernel, by decide +kernel⟩, by decide +kernel⟩⟩
theorem tw_323 : tw (Jvm.Cond.methodLink "TallyWax" (169 : Nat) ({ cls := "TallyWax", name := "holds", desc := "(II)Z" } : Jvm.MethodName)) := ⟨List.mem_of_getElem? (i := 347) (by decide +kernel), by decide +kernel⟩
theorem tw_324 : tw (Jvm.Cond.static ({ cls := "TallyWax", name := "holds", desc := "(II)Z" } : Jvm.MethodName)) := ⟨List.mem_of_getElem? (i := 348) (by decide +kernel), by decide +kernel⟩
theorem gw_325 : ((Jvm.Cond.code ({ cls := "TallyWax", name := "holds", desc := "(II)Z" } : Jvm.MethodName) prog_1_method_49_code (2 : Nat) (Option.some Jvm.ClassFile.FieldType.boolean)) : Cond) ∈ lw_tbl ∧ goodWord (Jvm.Cond.code ({ cls := "TallyWax", name := "holds", desc := "(II)Z" } : Jvm.MethodName) prog_1_method_49_code (2 : Nat) (Option.some Jvm.ClassFile.FieldType.boolean)) = true := ⟨List.mem_of_getElem? (i := 349) (by decide +kernel), by decide +kernel⟩
theorem k_RX3_169 : lkS RX3 169 yX3_holds cX3_holds 2 (Option.some FieldType.boolean) 2 := ⟨tw_323, tw_324, tw_1, gw_325, ⟨⟨by decide +kernel, by decide +kernel⟩, by decide +kernel⟩⟩
theorem tw_13 : tw (Jvm.Cond.initialized "java/lang/Integer") := ⟨List.mem_of_getElem? (i := 37) (by decide +kernel), by decide +kernel⟩
theorem tw_326 : tw (Jvm.Cond.methodLink "TallyWax" (164 : Nat) ({ cls := "java/lang/Integer", name := "bitCount", desc := "(I)I" } : Jvm.MethodName)) := ⟨List.mem_of_getElem? (i := 350) (by decide +kernel), by decide +kernel⟩
theorem tw_327 : tw (Jvm.Cond.static ({ cls := "java/lang/Integer", name := "bitCount", desc := "(I)I" } : Jvm.MethodName)) := ⟨List.mem_of_getElem? (i := 351) (by decide +kernel), by decide +kernel⟩
theorem gw_328 : ((Jvm.Cond.code ({ cls := "java/lang/Integer", name := "bitCount", desc := "(I)I" } : Jvm.MethodName) prog_12_method_49_code (1 : Nat) (Option.some Jvm.ClassFile.FieldType.int)) : Cond) ∈ lw_tbl ∧ goodWord (Jvm.Cond.code ({ cls := "java/lang/Integer", name := "bitCount", desc := "(I)I" } : Jvm.MethodName) prog_12_method_49_code (1 : Nat) (Option.some Jvm.ClassFile.FieldType.int)) = true := ⟨List.mem_of_getElem? (i := 352) (by decide +kernel), by decide +kernel⟩
theorem k_RX3_164 : lkS RX3 164 yJ6_bitCount_0f7a4 cJ6_bitCount_0f7a4 1 (Option.some FieldType.int) 1 := ⟨tw_326, tw_327, tw_13, gw_328, ⟨⟨by decide +kernel, by decide +kernel⟩, by decide +kernel⟩⟩
theorem tw_329 : tw (Jvm.Cond.constant "java/lang/Integer" (265 : Nat) (1431655765 : Int32)) := ⟨List.mem_of_getElem? (i := 353) (by decide +kernel), by decide +kernel⟩
theorem tw_330 : tw (Jvm.Cond.constant "java/lang/Integer" (266 : Nat) (858993459 : Int32)) := ⟨List.mem_of_getElem? (i := 354) (by decide +kernel), by decide +kernel⟩
theorem tw_331 : tw (Jvm.Cond.constant "java/lang/Integer" (267 : Nat) (252645135 : Int32)) := ⟨List.mem_of_getElem? (i := 355) (by decide +kernel), by decide +kernel⟩
theorem tw_334 : tw (Jvm.Cond.selects "TallyWax" ({ cls := "TallyWax", name := "isRound", desc := "()Z" } : Jvm.MethodName) ({ cls := "TallyWax", name := "isRound", desc := "()Z" } : Jvm.MethodName)) := ⟨List.mem_of_getElem? (i := 358) (by decide +kernel), by decide +kernel⟩
theorem tw_332 : tw (Jvm.Cond.methodLink "TallyWaxLaw" (156 : Nat) ({ cls := "TallyWax", name := "isRound", desc := "()Z" } : Jvm.MethodName)) := ⟨List.mem_of_getElem? (i := 356) (by decide +kernel), by decide +kernel⟩
theorem tw_333 : tw (Jvm.Cond.instanceMethod ({ cls := "TallyWax", name := "isRound", desc := "()Z" } : Jvm.MethodName)) := ⟨List.mem_of_getElem? (i := 357) (by decide +kernel), by decide +kernel⟩
theorem gw_335 : ((Jvm.Cond.code ({ cls := "TallyWax", name := "isRound", desc := "()Z" } : Jvm.MethodName) prog_1_method_29_code (2 : Nat) (Option.some Jvm.ClassFile.FieldType.boolean)) : Cond) ∈ lw_tbl ∧ goodWord (Jvm.Cond.code ({ cls := "TallyWax", name := "isRound", desc := "()Z" } : Jvm.MethodName) prog_1_method_29_code (2 : Nat) (Option.some Jvm.ClassFile.FieldType.boolean)) = true := ⟨List.mem_of_getElem? (i := 359) (by decide +kernel), by decide +kernel⟩
theorem k_RL_156 : lkV RL 156 yX3_isRound cX3_isRound 2 (Option.some FieldType.boolean) 0 := ⟨tw_332, tw_333, tw_334, tw_1, gw_335, ⟨⟨by decide +kernel, by decide +kernel⟩, by decide +kernel⟩⟩
theorem tw_338 : tw (Jvm.Cond.selects "TallyWax" ({ cls := "TallyWax", name := "linesSmoothed", desc := "(I)I" } : Jvm.MethodName) ({ cls := "TallyWax", name := "linesSmoothed", desc := "(I)I" } : Jvm.MethodName)) := ⟨List.mem_of_getElem? (i := 362) (by decide +kernel), by decide +kernel⟩
theorem tw_336 : tw (Jvm.Cond.methodLink "TallyWaxLaw" (111 : Nat) ({ cls := "TallyWax", name := "linesSmoothed", desc := "(I)I" } : Jvm.MethodName)) := ⟨List.mem_of_getElem? (i := 360) (by decide +kernel), by decide +kernel⟩
theorem tw_337 : tw (Jvm.Cond.instanceMethod ({ cls := "TallyWax", name := "linesSmoothed", desc := "(I)I" } : Jvm.MethodName)) := ⟨List.mem_of_getElem? (i := 361) (by decide +kernel), by decide +kernel⟩
theorem gw_339 : ((Jvm.Cond.code ({ cls := "TallyWax", name := "linesSmoothed", desc := "(I)I" } : Jvm.MethodName) prog_1_method_30_code (2 : Nat) (Option.some Jvm.ClassFile.FieldType.int)) : Cond) ∈ lw_tbl ∧ goodWord (Jvm.Cond.code ({ cls := "TallyWax", name := "linesSmoothed", desc := "(I)I" } : Jvm.MethodName) prog_1_method_30_code (2 : Nat) (Option.some Jvm.ClassFile.FieldType.int)) = true := ⟨List.mem_of_getElem? (i := 363) (by decide +kernel), by decide +kernel⟩
theorem k_RL_111 : lkV RL 111 yX3_linesSmoothed cX3_linesSmoothed 2 (Option.some FieldType.int) 1 := ⟨tw_336, tw_337, tw_338, tw_1, gw_339, ⟨⟨by decide +kernel, by decide +kernel⟩, by decide +kernel⟩⟩
theorem twp_14 : tw (.selects "TallyWax" ({ cls := "TallyWax", name := "linesLeftOn", desc := "(LTallyWax$Tablet;)I" } : Jvm.MethodName) ({ cls := "TallyWax", name := "linesLeftOn", desc := "(LTallyWax$Tablet;)I" } : Jvm.MethodName)) := ⟨List.mem_of_getElem? (i := 14) (by decide +kernel), by decide +kernel⟩
theorem tw_340 : tw (Jvm.Cond.methodLink "TallyWax" (173 : Nat) ({ cls := "TallyWax", name := "linesLeftOn", desc := "(LTallyWax$Tablet;)I" } : Jvm.MethodName)) := ⟨List.mem_of_getElem? (i := 364) (by decide +kernel), by decide +kernel⟩
theorem tw_342 : tw (Jvm.Cond.instanceMethod ({ cls := "TallyWax", name := "linesLeftOn", desc := "(LTallyWax$Tablet;)I" } : Jvm.MethodName)) := ⟨List.mem_of_getElem? (i := 366) (by decide +kernel), by decide +kernel⟩
theorem gw_343 : ((Jvm.Cond.code ({ cls := "TallyWax", name := "linesLeftOn", desc := "(LTallyWax$Tablet;)I" } : Jvm.MethodName) prog_1_method_50_code (2 : Nat) (Option.some Jvm.ClassFile.FieldType.int)) : Cond) ∈ lw_tbl ∧ goodWord (Jvm.Cond.code ({ cls := "TallyWax", name := "linesLeftOn", desc := "(LTallyWax$Tablet;)I" } : Jvm.MethodName) prog_1_method_50_code (2 : Nat) (Option.some Jvm.ClassFile.FieldType.int)) = true := ⟨List.mem_of_getElem? (i := 367) (by decide +kernel), by decide +kernel⟩
theorem k_RX3_173 : lkV RX3 173 yX3_linesLeftOn cX3_linesLeftOn 2 (Option.some FieldType.int) 1 := ⟨tw_340, tw_342, twp_14, tw_1, gw_343, ⟨⟨by decide +kernel, by decide +kernel⟩, by decide +kernel⟩⟩
theorem twp_15 : tw (.selects "TallyWax$Smoothing" ({ cls := "TallyWax$Smoothing", name := "plan", desc := "(LTallyWax$LineList;[Z)Z" } : Jvm.MethodName) ({ cls := "TallyWax$Smoothing", name := "plan", desc := "(LTallyWax$LineList;[Z)Z" } : Jvm.MethodName)) := ⟨List.mem_of_getElem? (i := 15) (by decide +kernel), by decide +kernel⟩
theorem tw_344 : tw (Jvm.Cond.methodLinkNest "TallyWax" (109 : Nat) ({ cls := "TallyWax$Smoothing", name := "plan", desc := "(LTallyWax$LineList;[Z)Z" } : Jvm.MethodName) "TallyWax") := ⟨List.mem_of_getElem? (i := 368) (by decide +kernel), by decide +kernel⟩
theorem tw_346 : tw (Jvm.Cond.instanceMethod ({ cls := "TallyWax$Smoothing", name := "plan", desc := "(LTallyWax$LineList;[Z)Z" } : Jvm.MethodName)) := ⟨List.mem_of_getElem? (i := 370) (by decide +kernel), by decide +kernel⟩
theorem gw_347 : ((Jvm.Cond.code ({ cls := "TallyWax$Smoothing", name := "plan", desc := "(LTallyWax$LineList;[Z)Z" } : Jvm.MethodName) prog_3_method_2_code (5 : Nat) (Option.some Jvm.ClassFile.FieldType.boolean)) : Cond) ∈ lw_tbl ∧ goodWord (Jvm.Cond.code ({ cls := "TallyWax$Smoothing", name := "plan", desc := "(LTallyWax$LineList;[Z)Z" } : Jvm.MethodName) prog_3_method_2_code (5 : Nat) (Option.some Jvm.ClassFile.FieldType.boolean)) = true := ⟨List.mem_of_getElem? (i := 371) (by decide +kernel), by decide +kernel⟩
theorem k_RX3_109 : lkVN RX3 109 yX1_plan cX1_plan 5 (Option.some FieldType.boolean) 2 := ⟨⟨_, tw_344⟩, tw_346, twp_15, tw_2, gw_347, ⟨⟨by decide +kernel, by decide +kernel⟩, by decide +kernel⟩⟩
theorem tw_348 : tw (Jvm.Cond.methodLinkNest "TallyWax$Smoothing" (26 : Nat) ({ cls := "TallyWax$LineList", name := "balanceOf", desc := "(I)I" } : Jvm.MethodName) "TallyWax") := ⟨List.mem_of_getElem? (i := 372) (by decide +kernel), by decide +kernel⟩
theorem k_RX1_26 : lkVN RX1 26 yX0_balanceOf cX0_balanceOf 4 (Option.some FieldType.int) 1 := ⟨⟨_, tw_348⟩, tw_281, twp_8, tw_3, gw_282, ⟨⟨by decide +kernel, by decide +kernel⟩, by decide +kernel⟩⟩
theorem twp_16 : tw (.selects "TallyWax$Smoothing" ({ cls := "TallyWax$Smoothing", name := "poorest", desc := "()I" } : Jvm.MethodName) ({ cls := "TallyWax$Smoothing", name := "poorest", desc := "()I" } : Jvm.MethodName)) := ⟨List.mem_of_getElem? (i := 16) (by decide +kernel), by decide +kernel⟩
theorem tw_349 : tw (Jvm.Cond.methodLink "TallyWax$Smoothing" (30 : Nat) ({ cls := "TallyWax$Smoothing", name := "poorest", desc := "()I" } : Jvm.MethodName)) := ⟨List.mem_of_getElem? (i := 373) (by decide +kernel), by decide +kernel⟩
theorem tw_351 : tw (Jvm.Cond.instanceMethod ({ cls := "TallyWax$Smoothing", name := "poorest", desc := "()I" } : Jvm.MethodName)) := ⟨List.mem_of_getElem? (i := 375) (by decide +kernel), by decide +kernel⟩
theorem gw_352 : ((Jvm.Cond.code ({ cls := "TallyWax$Smoothing", name := "poorest", desc := "()I" } : Jvm.MethodName) prog_3_method_4_code (3 : Nat) (Option.some Jvm.ClassFile.FieldType.int)) : Cond) ∈ lw_tbl ∧ goodWord (Jvm.Cond.code ({ cls := "TallyWax$Smoothing", name := "poorest", desc := "()I" } : Jvm.MethodName) prog_3_method_4_code (3 : Nat) (Option.some Jvm.ClassFile.FieldType.int)) = true := ⟨List.mem_of_getElem? (i := 376) (by decide +kernel), by decide +kernel⟩
theorem k_RX1_30 : lkV RX1 30 yX1_poorest cX1_poorest 3 (Option.some FieldType.int) 0 := ⟨tw_349, tw_351, twp_16, tw_2, gw_352, ⟨⟨by decide +kernel, by decide +kernel⟩, by decide +kernel⟩⟩
theorem twp_17 : tw (.selects "TallyWax$Smoothing" ({ cls := "TallyWax$Smoothing", name := "wealthiest", desc := "()I" } : Jvm.MethodName) ({ cls := "TallyWax$Smoothing", name := "wealthiest", desc := "()I" } : Jvm.MethodName)) := ⟨List.mem_of_getElem? (i := 17) (by decide +kernel), by decide +kernel⟩
theorem tw_353 : tw (Jvm.Cond.methodLink "TallyWax$Smoothing" (34 : Nat) ({ cls := "TallyWax$Smoothing", name := "wealthiest", desc := "()I" } : Jvm.MethodName)) := ⟨List.mem_of_getElem? (i := 377) (by decide +kernel), by decide +kernel⟩
theorem tw_355 : tw (Jvm.Cond.instanceMethod ({ cls := "TallyWax$Smoothing", name := "wealthiest", desc := "()I" } : Jvm.MethodName)) := ⟨List.mem_of_getElem? (i := 379) (by decide +kernel), by decide +kernel⟩
theorem gw_356 : ((Jvm.Cond.code ({ cls := "TallyWax$Smoothing", name := "wealthiest", desc := "()I" } : Jvm.MethodName) prog_3_method_5_code (3 : Nat) (Option.some Jvm.ClassFile.FieldType.int)) : Cond) ∈ lw_tbl ∧ goodWord (Jvm.Cond.code ({ cls := "TallyWax$Smoothing", name := "wealthiest", desc := "()I" } : Jvm.MethodName) prog_3_method_5_code (3 : Nat) (Option.some Jvm.ClassFile.FieldType.int)) = true := ⟨List.mem_of_getElem? (i := 380) (by decide +kernel), by decide +kernel⟩
theorem k_RX1_34 : lkV RX1 34 yX1_wealthiest cX1_wealthiest 3 (Option.some FieldType.int) 0 := ⟨tw_353, tw_355, twp_17, tw_2, gw_356, ⟨⟨by decide +kernel, by decide +kernel⟩, by decide +kernel⟩⟩
theorem twp_18 : tw (.selects "TallyWax$Smoothing" ({ cls := "TallyWax$Smoothing", name := "planLine", desc := "(II[Z)Z" } : Jvm.MethodName) ({ cls := "TallyWax$Smoothing", name := "planLine", desc := "(II[Z)Z" } : Jvm.MethodName)) := ⟨List.mem_of_getElem? (i := 18) (by decide +kernel), by decide +kernel⟩
theorem tw_357 : tw (Jvm.Cond.methodLink "TallyWax$Smoothing" (37 : Nat) ({ cls := "TallyWax$Smoothing", name := "planLine", desc := "(II[Z)Z" } : Jvm.MethodName)) := ⟨List.mem_of_getElem? (i := 381) (by decide +kernel), by decide +kernel⟩
theorem tw_359 : tw (Jvm.Cond.instanceMethod ({ cls := "TallyWax$Smoothing", name := "planLine", desc := "(II[Z)Z" } : Jvm.MethodName)) := ⟨List.mem_of_getElem? (i := 383) (by decide +kernel), by decide +kernel⟩
theorem gw_360 : ((Jvm.Cond.code ({ cls := "TallyWax$Smoothing", name := "planLine", desc := "(II[Z)Z" } : Jvm.MethodName) prog_3_method_3_code (6 : Nat) (Option.some Jvm.ClassFile.FieldType.boolean)) : Cond) ∈ lw_tbl ∧ goodWord (Jvm.Cond.code ({ cls := "TallyWax$Smoothing", name := "planLine", desc := "(II[Z)Z" } : Jvm.MethodName) prog_3_method_3_code (6 : Nat) (Option.some Jvm.ClassFile.FieldType.boolean)) = true := ⟨List.mem_of_getElem? (i := 384) (by decide +kernel), by decide +kernel⟩
theorem k_RX1_37 : lkV RX1 37 yX1_planLine cX1_planLine 6 (Option.some FieldType.boolean) 3 := ⟨tw_357, tw_359, twp_18, tw_2, gw_360, ⟨⟨by decide +kernel, by decide +kernel⟩, by decide +kernel⟩⟩
theorem tw_361 : tw (Jvm.Cond.methodLink "TallyWax$Smoothing" (41 : Nat) ({ cls := "TallyWax$Smoothing", name := "witnessFor", desc := "(II[Z)I" } : Jvm.MethodName)) := ⟨List.mem_of_getElem? (i := 385) (by decide +kernel), by decide +kernel⟩
theorem tw_362 : tw (Jvm.Cond.static ({ cls := "TallyWax$Smoothing", name := "witnessFor", desc := "(II[Z)I" } : Jvm.MethodName)) := ⟨List.mem_of_getElem? (i := 386) (by decide +kernel), by decide +kernel⟩
theorem gw_363 : ((Jvm.Cond.code ({ cls := "TallyWax$Smoothing", name := "witnessFor", desc := "(II[Z)I" } : Jvm.MethodName) prog_3_method_6_code (4 : Nat) (Option.some Jvm.ClassFile.FieldType.int)) : Cond) ∈ lw_tbl ∧ goodWord (Jvm.Cond.code ({ cls := "TallyWax$Smoothing", name := "witnessFor", desc := "(II[Z)I" } : Jvm.MethodName) prog_3_method_6_code (4 : Nat) (Option.some Jvm.ClassFile.FieldType.int)) = true := ⟨List.mem_of_getElem? (i := 387) (by decide +kernel), by decide +kernel⟩
theorem k_RX1_41 : lkS RX1 41 yX1_witnessFor cX1_witnessFor 4 (Option.some FieldType.int) 3 := ⟨tw_361, tw_362, tw_2, gw_363, ⟨⟨by decide +kernel, by decide +kernel⟩, by decide +kernel⟩⟩
theorem tw_364 : tw (Jvm.Cond.methodLink "TallyWax$Smoothing" (45 : Nat) ({ cls := "java/lang/Math", name := "min", desc := "(II)I" } : Jvm.MethodName)) := ⟨List.mem_of_getElem? (i := 388) (by decide +kernel), by decide +kernel⟩
theorem twp_19 : tw (.selects "TallyWax$LineList" ({ cls := "TallyWax$LineList", name := "append", desc := "(IIII)V" } : Jvm.MethodName) ({ cls := "TallyWax$LineList", name := "append", desc := "(IIII)V" } : Jvm.MethodName)) := ⟨List.mem_of_getElem? (i := 19) (by decide +kernel), by decide +kernel⟩
theorem tw_367 : tw (Jvm.Cond.methodLinkNest "TallyWax$Smoothing" (51 : Nat) ({ cls := "TallyWax$LineList", name := "append", desc := "(IIII)V" } : Jvm.MethodName) "TallyWax") := ⟨List.mem_of_getElem? (i := 391) (by decide +kernel), by decide +kernel⟩
theorem tw_369 : tw (Jvm.Cond.instanceMethod ({ cls := "TallyWax$LineList", name := "append", desc := "(IIII)V" } : Jvm.MethodName)) := ⟨List.mem_of_getElem? (i := 393) (by decide +kernel), by decide +kernel⟩
theorem gw_370 : ((Jvm.Cond.code ({ cls := "TallyWax$LineList", name := "append", desc := "(IIII)V" } : Jvm.MethodName) prog_2_method_2_code (6 : Nat) (Option.none : Option Jvm.ClassFile.FieldType)) : Cond) ∈ lw_tbl ∧ goodWord (Jvm.Cond.code ({ cls := "TallyWax$LineList", name := "append", desc := "(IIII)V" } : Jvm.MethodName) prog_2_method_2_code (6 : Nat) (Option.none : Option Jvm.ClassFile.FieldType)) = true := ⟨List.mem_of_getElem? (i := 394) (by decide +kernel), by decide +kernel⟩
theorem k_RX1_51 : lkVN RX1 51 yX0_append cX0_append 6 (Option.none : Option FieldType) 4 := ⟨⟨_, tw_367⟩, tw_369, twp_19, tw_3, gw_370, ⟨⟨by decide +kernel, by decide +kernel⟩, by decide +kernel⟩⟩
theorem tw_373 : tw (Jvm.Cond.selects "TallyWax" ({ cls := "TallyWax", name := "atRisk", desc := "(I)I" } : Jvm.MethodName) ({ cls := "TallyWax", name := "atRisk", desc := "(I)I" } : Jvm.MethodName)) := ⟨List.mem_of_getElem? (i := 397) (by decide +kernel), by decide +kernel⟩
theorem tw_371 : tw (Jvm.Cond.methodLink "TallyWaxLaw" (139 : Nat) ({ cls := "TallyWax", name := "atRisk", desc := "(I)I" } : Jvm.MethodName)) := ⟨List.mem_of_getElem? (i := 395) (by decide +kernel), by decide +kernel⟩
theorem tw_372 : tw (Jvm.Cond.instanceMethod ({ cls := "TallyWax", name := "atRisk", desc := "(I)I" } : Jvm.MethodName)) := ⟨List.mem_of_getElem? (i := 396) (by decide +kernel), by decide +kernel⟩
theorem gw_374 : ((Jvm.Cond.code ({ cls := "TallyWax", name := "atRisk", desc := "(I)I" } : Jvm.MethodName) prog_1_method_32_code (7 : Nat) (Option.some Jvm.ClassFile.FieldType.int)) : Cond) ∈ lw_tbl ∧ goodWord (Jvm.Cond.code ({ cls := "TallyWax", name := "atRisk", desc := "(I)I" } : Jvm.MethodName) prog_1_method_32_code (7 : Nat) (Option.some Jvm.ClassFile.FieldType.int)) = true := ⟨List.mem_of_getElem? (i := 398) (by decide +kernel), by decide +kernel⟩
theorem k_RL_139 : lkV RL 139 yX3_atRisk cX3_atRisk 7 (Option.some FieldType.int) 1 := ⟨tw_371, tw_372, tw_373, tw_1, gw_374, ⟨⟨by decide +kernel, by decide +kernel⟩, by decide +kernel⟩⟩
theorem twp_20 : tw (.selects "TallyWax$LineList" ({ cls := "TallyWax$LineList", name := "sumWitnessedBy", desc := "(I)I" } : Jvm.MethodName) ({ cls := "TallyWax$LineList", name := "sumWitnessedBy", desc := "(I)I" } : Jvm.MethodName)) := ⟨List.mem_of_getElem? (i := 20) (by decide +kernel), by decide +kernel⟩
theorem tw_375 : tw (Jvm.Cond.methodLinkNest "TallyWax" (180 : Nat) ({ cls := "TallyWax$LineList", name := "sumWitnessedBy", desc := "(I)I" } : Jvm.MethodName) "TallyWax") := ⟨List.mem_of_getElem? (i := 399) (by decide +kernel), by decide +kernel⟩
theorem tw_377 : tw (Jvm.Cond.instanceMethod ({ cls := "TallyWax$LineList", name := "sumWitnessedBy", desc := "(I)I" } : Jvm.MethodName)) := ⟨List.mem_of_getElem? (i := 401) (by decide +kernel), by decide +kernel⟩
theorem gw_378 : ((Jvm.Cond.code ({ cls := "TallyWax$LineList", name := "sumWitnessedBy", desc := "(I)I" } : Jvm.MethodName) prog_2_method_8_code (4 : Nat) (Option.some Jvm.ClassFile.FieldType.int)) : Cond) ∈ lw_tbl ∧ goodWord (Jvm.Cond.code ({ cls := "TallyWax$LineList", name := "sumWitnessedBy", desc := "(I)I" } : Jvm.MethodName) prog_2_method_8_code (4 : Nat) (Option.some Jvm.ClassFile.FieldType.int)) = true := ⟨List.mem_of_getElem? (i := 402) (by decide +kernel), by decide +kernel⟩
theorem k_RX3_180 : lkVN RX3 180 yX0_sumWitnessedBy cX0_sumWitnessedBy 4 (Option.some FieldType.int) 1 := ⟨⟨_, tw_375⟩, tw_377, twp_20, tw_3, gw_378, ⟨⟨by decide +kernel, by decide +kernel⟩, by decide +kernel⟩⟩
theorem tw_381 : tw (Jvm.Cond.selects "TallyWax" ({ cls := "TallyWax", name := "yearsUntilMelted", desc := "(I)I" } : Jvm.MethodName) ({ cls := "TallyWax", name := "yearsUntilMelted", desc := "(I)I" } : Jvm.MethodName)) := ⟨List.mem_of_getElem? (i := 405) (by decide +kernel), by decide +kernel⟩
theorem tw_379 : tw (Jvm.Cond.methodLink "TallyWaxLaw" (114 : Nat) ({ cls := "TallyWax", name := "yearsUntilMelted", desc := "(I)I" } : Jvm.MethodName)) := ⟨List.mem_of_getElem? (i := 403) (by decide +kernel), by decide +kernel⟩
theorem tw_380 : tw (Jvm.Cond.instanceMethod ({ cls := "TallyWax", name := "yearsUntilMelted", desc := "(I)I" } : Jvm.MethodName)) := ⟨List.mem_of_getElem? (i := 404) (by decide +kernel), by decide +kernel⟩
theorem gw_382 : ((Jvm.Cond.code ({ cls := "TallyWax", name := "yearsUntilMelted", desc := "(I)I" } : Jvm.MethodName) prog_1_method_33_code (2 : Nat) (Option.some Jvm.ClassFile.FieldType.int)) : Cond) ∈ lw_tbl ∧ goodWord (Jvm.Cond.code ({ cls := "TallyWax", name := "yearsUntilMelted", desc := "(I)I" } : Jvm.MethodName) prog_1_method_33_code (2 : Nat) (Option.some Jvm.ClassFile.FieldType.int)) = true := ⟨List.mem_of_getElem? (i := 406) (by decide +kernel), by decide +kernel⟩
theorem k_RL_114 : lkV RL 114 yX3_yearsUntilMelted cX3_yearsUntilMelted 2 (Option.some FieldType.int) 1 := ⟨tw_379, tw_380, tw_381, tw_1, gw_382, ⟨⟨by decide +kernel, by decide +kernel⟩, by decide +kernel⟩⟩
theorem twp_21 : tw (.selects "TallyWax" ({ cls := "TallyWax", name := "yearsLeftOf", desc := "(LTallyWax$Tablet;)I" } : Jvm.MethodName) ({ cls := "TallyWax", name := "yearsLeftOf", desc := "(LTallyWax$Tablet;)I" } : Jvm.MethodName)) := ⟨List.mem_of_getElem? (i := 21) (by decide +kernel), by decide +kernel⟩
theorem tw_383 : tw (Jvm.Cond.methodLink "TallyWax" (183 : Nat) ({ cls := "TallyWax", name := "yearsLeftOf", desc := "(LTallyWax$Tablet;)I" } : Jvm.MethodName)) := ⟨List.mem_of_getElem? (i := 407) (by decide +kernel), by decide +kernel⟩
theorem tw_385 : tw (Jvm.Cond.instanceMethod ({ cls := "TallyWax", name := "yearsLeftOf", desc := "(LTallyWax$Tablet;)I" } : Jvm.MethodName)) := ⟨List.mem_of_getElem? (i := 409) (by decide +kernel), by decide +kernel⟩
theorem gw_386 : ((Jvm.Cond.code ({ cls := "TallyWax", name := "yearsLeftOf", desc := "(LTallyWax$Tablet;)I" } : Jvm.MethodName) prog_1_method_45_code (3 : Nat) (Option.some Jvm.ClassFile.FieldType.int)) : Cond) ∈ lw_tbl ∧ goodWord (Jvm.Cond.code ({ cls := "TallyWax", name := "yearsLeftOf", desc := "(LTallyWax$Tablet;)I" } : Jvm.MethodName) prog_1_method_45_code (3 : Nat) (Option.some Jvm.ClassFile.FieldType.int)) = true := ⟨List.mem_of_getElem? (i := 410) (by decide +kernel), by decide +kernel⟩
theorem k_RX3_183 : lkV RX3 183 yX3_yearsLeftOf cX3_yearsLeftOf 3 (Option.some FieldType.int) 1 := ⟨tw_383, tw_385, twp_21, tw_1, gw_386, ⟨⟨by decide +kernel, by decide +kernel⟩, by decide +kernel⟩⟩
theorem tw_389 : tw (Jvm.Cond.selects "TallyWax" ({ cls := "TallyWax", name := "meltsIn", desc := "(I)I" } : Jvm.MethodName) ({ cls := "TallyWax", name := "meltsIn", desc := "(I)I" } : Jvm.MethodName)) := ⟨List.mem_of_getElem? (i := 413) (by decide +kernel), by decide +kernel⟩
theorem tw_387 : tw (Jvm.Cond.methodLink "TallyWaxLaw" (170 : Nat) ({ cls := "TallyWax", name := "meltsIn", desc := "(I)I" } : Jvm.MethodName)) := ⟨List.mem_of_getElem? (i := 411) (by decide +kernel), by decide +kernel⟩
theorem tw_388 : tw (Jvm.Cond.instanceMethod ({ cls := "TallyWax", name := "meltsIn", desc := "(I)I" } : Jvm.MethodName)) := ⟨List.mem_of_getElem? (i := 412) (by decide +kernel), by decide +kernel⟩
theorem gw_390 : ((Jvm.Cond.code ({ cls := "TallyWax", name := "meltsIn", desc := "(I)I" } : Jvm.MethodName) prog_1_method_34_code (8 : Nat) (Option.some Jvm.ClassFile.FieldType.int)) : Cond) ∈ lw_tbl ∧ goodWord (Jvm.Cond.code ({ cls := "TallyWax", name := "meltsIn", desc := "(I)I" } : Jvm.MethodName) prog_1_method_34_code (8 : Nat) (Option.some Jvm.ClassFile.FieldType.int)) = true := ⟨List.mem_of_getElem? (i := 414) (by decide +kernel), by decide +kernel⟩
theorem k_RL_170 : lkV RL 170 yX3_meltsIn cX3_meltsIn 8 (Option.some FieldType.int) 1 := ⟨tw_387, tw_388, tw_389, tw_1, gw_390, ⟨⟨by decide +kernel, by decide +kernel⟩, by decide +kernel⟩⟩
theorem tw_393 : tw (Jvm.Cond.selects "TallyWax" ({ cls := "TallyWax", name := "meanAmount", desc := "()D" } : Jvm.MethodName) ({ cls := "TallyWax", name := "meanAmount", desc := "()D" } : Jvm.MethodName)) := ⟨List.mem_of_getElem? (i := 417) (by decide +kernel), by decide +kernel⟩
theorem tw_391 : tw (Jvm.Cond.methodLink "TallyWaxLaw" (160 : Nat) ({ cls := "TallyWax", name := "meanAmount", desc := "()D" } : Jvm.MethodName)) := ⟨List.mem_of_getElem? (i := 415) (by decide +kernel), by decide +kernel⟩
theorem tw_392 : tw (Jvm.Cond.instanceMethod ({ cls := "TallyWax", name := "meanAmount", desc := "()D" } : Jvm.MethodName)) := ⟨List.mem_of_getElem? (i := 416) (by decide +kernel), by decide +kernel⟩
theorem gw_394 : ((Jvm.Cond.code ({ cls := "TallyWax", name := "meanAmount", desc := "()D" } : Jvm.MethodName) prog_1_method_35_code (2 : Nat) (Option.some Jvm.ClassFile.FieldType.double)) : Cond) ∈ lw_tbl ∧ goodWord (Jvm.Cond.code ({ cls := "TallyWax", name := "meanAmount", desc := "()D" } : Jvm.MethodName) prog_1_method_35_code (2 : Nat) (Option.some Jvm.ClassFile.FieldType.double)) = true := ⟨List.mem_of_getElem? (i := 418) (by decide +kernel), by decide +kernel⟩
theorem k_RL_160 : lkV RL 160 yX3_meanAmount cX3_meanAmount 2 (Option.some FieldType.double) 0 := ⟨tw_391, tw_392, tw_393, tw_1, gw_394, ⟨⟨by decide +kernel, by decide +kernel⟩, by decide +kernel⟩⟩
theorem tw_395 : tw (Jvm.Cond.methodLink "TallyWax" (186 : Nat) ({ cls := "TallyWax", name := "lines", desc := "()I" } : Jvm.MethodName)) := ⟨List.mem_of_getElem? (i := 419) (by decide +kernel), by decide +kernel⟩
theorem k_RX3_186 : lkV RX3 186 yX3_lines cX3_lines 6 (Option.some FieldType.int) 0 := ⟨tw_395, tw_196, tw_197, tw_1, gw_198, ⟨⟨by decide +kernel, by decide +kernel⟩, by decide +kernel⟩⟩
theorem tw_396 : tw (Jvm.Cond.methodLink "TallyWax" (188 : Nat) ({ cls := "TallyWax", name := "total", desc := "()I" } : Jvm.MethodName)) := ⟨List.mem_of_getElem? (i := 420) (by decide +kernel), by decide +kernel⟩
theorem k_RX3_188 : lkV RX3 188 yX3_total cX3_total 6 (Option.some FieldType.int) 0 := ⟨tw_396, tw_296, tw_297, tw_1, gw_298, ⟨⟨by decide +kernel, by decide +kernel⟩, by decide +kernel⟩⟩
theorem tw_4 : tw (Jvm.Cond.initialized "TallyWaxLaw$Sim") := ⟨List.mem_of_getElem? (i := 28) (by decide +kernel), by decide +kernel⟩
theorem tw_399 : tw (Jvm.Cond.selects "TallyWaxLaw$Sim" ({ cls := "TallyWaxLaw$Sim", name := "pass", desc := "(I)I" } : Jvm.MethodName) ({ cls := "TallyWaxLaw$Sim", name := "pass", desc := "(I)I" } : Jvm.MethodName)) := ⟨List.mem_of_getElem? (i := 423) (by decide +kernel), by decide +kernel⟩
theorem tw_397 : tw (Jvm.Cond.methodLink "TallyWaxLaw" (82 : Nat) ({ cls := "TallyWaxLaw$Sim", name := "pass", desc := "(I)I" } : Jvm.MethodName)) := ⟨List.mem_of_getElem? (i := 421) (by decide +kernel), by decide +kernel⟩
theorem tw_398 : tw (Jvm.Cond.instanceMethod ({ cls := "TallyWaxLaw$Sim", name := "pass", desc := "(I)I" } : Jvm.MethodName)) := ⟨List.mem_of_getElem? (i := 422) (by decide +kernel), by decide +kernel⟩
theorem gw_400 : ((Jvm.Cond.code ({ cls := "TallyWaxLaw$Sim", name := "pass", desc := "(I)I" } : Jvm.MethodName) prog_6_method_7_code (5 : Nat) (Option.some Jvm.ClassFile.FieldType.int)) : Cond) ∈ lw_tbl ∧ goodWord (Jvm.Cond.code ({ cls := "TallyWaxLaw$Sim", name := "pass", desc := "(I)I" } : Jvm.MethodName) prog_6_method_7_code (5 : Nat) (Option.some Jvm.ClassFile.FieldType.int)) = true := ⟨List.mem_of_getElem? (i := 424) (by decide +kernel), by decide +kernel⟩
theorem k_RL_82 : lkV RL 82 yX4_pass cX4_pass 5 (Option.some FieldType.int) 1 := ⟨tw_397, tw_398, tw_399, tw_4, gw_400, ⟨⟨by decide +kernel, by decide +kernel⟩, by decide +kernel⟩⟩
theorem tw_403 : tw (Jvm.Cond.selects "TallyWaxLaw$Sim" ({ cls := "TallyWaxLaw$Sim", name := "melts", desc := "(II)Z" } : Jvm.MethodName) ({ cls := "TallyWaxLaw$Sim", name := "melts", desc := "(II)Z" } : Jvm.MethodName)) := ⟨List.mem_of_getElem? (i := 427) (by decide +kernel), by decide +kernel⟩
theorem tw_401 : tw (Jvm.Cond.methodLink "TallyWaxLaw$Sim" (42 : Nat) ({ cls := "TallyWaxLaw$Sim", name := "melts", desc := "(II)Z" } : Jvm.MethodName)) := ⟨List.mem_of_getElem? (i := 425) (by decide +kernel), by decide +kernel⟩
theorem tw_402 : tw (Jvm.Cond.instanceMethod ({ cls := "TallyWaxLaw$Sim", name := "melts", desc := "(II)Z" } : Jvm.MethodName)) := ⟨List.mem_of_getElem? (i := 426) (by decide +kernel), by decide +kernel⟩
theorem gw_404 : ((Jvm.Cond.code ({ cls := "TallyWaxLaw$Sim", name := "melts", desc := "(II)Z" } : Jvm.MethodName) prog_6_method_6_code (3 : Nat) (Option.some Jvm.ClassFile.FieldType.boolean)) : Cond) ∈ lw_tbl ∧ goodWord (Jvm.Cond.code ({ cls := "TallyWaxLaw$Sim", name := "melts", desc := "(II)Z" } : Jvm.MethodName) prog_6_method_6_code (3 : Nat) (Option.some Jvm.ClassFile.FieldType.boolean)) = true := ⟨List.mem_of_getElem? (i := 428) (by decide +kernel), by decide +kernel⟩
theorem k_RX4_42 : lkV RX4 42 yX4_melts cX4_melts 3 (Option.some FieldType.boolean) 2 := ⟨tw_401, tw_402, tw_403, tw_4, gw_404, ⟨⟨by decide +kernel, by decide +kernel⟩, by decide +kernel⟩⟩
theorem tw_405 : tw (Jvm.Cond.classLink "TallyWaxLaw$Sim" (17 : Nat) "[I") := ⟨List.mem_of_getElem? (i := 429) (by decide +kernel), by decide +kernel⟩
theorem tw_409 : tw (Jvm.Cond.selects "TallyWaxLaw$Sim" ({ cls := "TallyWaxLaw$Sim", name := "isSame", desc := "(LTallyWax;)Z" } : Jvm.MethodName) ({ cls := "TallyWaxLaw$Sim", name := "isSame", desc := "(LTallyWax;)Z" } : Jvm.MethodName)) := ⟨List.mem_of_getElem? (i := 433) (by decide +kernel), by decide +kernel⟩
theorem tw_407 : tw (Jvm.Cond.methodLink "TallyWaxLaw" (175 : Nat) ({ cls := "TallyWaxLaw$Sim", name := "isSame", desc := "(LTallyWax;)Z" } : Jvm.MethodName)) := ⟨List.mem_of_getElem? (i := 431) (by decide +kernel), by decide +kernel⟩
theorem tw_408 : tw (Jvm.Cond.instanceMethod ({ cls := "TallyWaxLaw$Sim", name := "isSame", desc := "(LTallyWax;)Z" } : Jvm.MethodName)) := ⟨List.mem_of_getElem? (i := 432) (by decide +kernel), by decide +kernel⟩
theorem gw_410 : ((Jvm.Cond.code ({ cls := "TallyWaxLaw$Sim", name := "isSame", desc := "(LTallyWax;)Z" } : Jvm.MethodName) prog_6_method_9_code (10 : Nat) (Option.some Jvm.ClassFile.FieldType.boolean)) : Cond) ∈ lw_tbl ∧ goodWord (Jvm.Cond.code ({ cls := "TallyWaxLaw$Sim", name := "isSame", desc := "(LTallyWax;)Z" } : Jvm.MethodName) prog_6_method_9_code (10 : Nat) (Option.some Jvm.ClassFile.FieldType.boolean)) = true := ⟨List.mem_of_getElem? (i := 434) (by decide +kernel), by decide +kernel⟩
theorem k_RL_175 : lkV RL 175 yX4_isSame cX4_isSame 10 (Option.some FieldType.boolean) 1 := ⟨tw_407, tw_408, tw_409, tw_4, gw_410, ⟨⟨by decide +kernel, by decide +kernel⟩, by decide +kernel⟩⟩
theorem tw_411 : tw (Jvm.Cond.classLink "TallyWaxLaw$Sim" (46 : Nat) "[[I") := ⟨List.mem_of_getElem? (i := 435) (by decide +kernel), by decide +kernel⟩
theorem tw_412 : tw (Jvm.Cond.methodLink "TallyWaxLaw$Sim" (27 : Nat) ({ cls := "TallyWaxLaw$Sim", name := "has", desc := "([[I)[I" } : Jvm.MethodName)) := ⟨List.mem_of_getElem? (i := 436) (by decide +kernel), by decide +kernel⟩
theorem tw_413 : tw (Jvm.Cond.static ({ cls := "TallyWaxLaw$Sim", name := "has", desc := "([[I)[I" } : Jvm.MethodName)) := ⟨List.mem_of_getElem? (i := 437) (by decide +kernel), by decide +kernel⟩
theorem gw_414 : ((Jvm.Cond.code ({ cls := "TallyWaxLaw$Sim", name := "has", desc := "([[I)[I" } : Jvm.MethodName) prog_6_method_4_code (6 : Nat) (Option.some (Jvm.ClassFile.FieldType.array Jvm.ClassFile.FieldType.int))) : Cond) ∈ lw_tbl ∧ goodWord (Jvm.Cond.code ({ cls := "TallyWaxLaw$Sim", name := "has", desc := "([[I)[I" } : Jvm.MethodName) prog_6_method_4_code (6 : Nat) (Option.some (Jvm.ClassFile.FieldType.array Jvm.ClassFile.FieldType.int))) = true := ⟨List.mem_of_getElem? (i := 438) (by decide +kernel), by decide +kernel⟩
theorem k_RX4_27 : lkS RX4 27 yX4_has cX4_has 6 (Option.some (FieldType.array FieldType.int)) 1 := ⟨tw_412, tw_413, tw_4, gw_414, ⟨⟨by decide +kernel, by decide +kernel⟩, by decide +kernel⟩⟩
theorem tw_415 : tw (Jvm.Cond.methodLink "TallyWaxLaw$Sim" (47 : Nat) ({ cls := "TallyWax", name := "linesOf", desc := "(I)I" } : Jvm.MethodName)) := ⟨List.mem_of_getElem? (i := 439) (by decide +kernel), by decide +kernel⟩
theorem k_RX4_47 : lkV RX4 47 yX3_linesOf cX3_linesOf 2 (Option.some FieldType.int) 1 := ⟨tw_415, tw_234, tw_235, tw_1, gw_236, ⟨⟨by decide +kernel, by decide +kernel⟩, by decide +kernel⟩⟩
theorem tw_416 : tw (Jvm.Cond.methodLink "TallyWaxLaw$Sim" (53 : Nat) ({ cls := "TallyWax", name := "isInCellar", desc := "(I)Z" } : Jvm.MethodName)) := ⟨List.mem_of_getElem? (i := 440) (by decide +kernel), by decide +kernel⟩
theorem k_RX4_53 : lkV RX4 53 yX3_isInCellar cX3_isInCellar 2 (Option.some FieldType.boolean) 1 := ⟨tw_416, tw_243, tw_244, tw_1, gw_245, ⟨⟨by decide +kernel, by decide +kernel⟩, by decide +kernel⟩⟩
theorem tw_417 : tw (Jvm.Cond.methodLink "TallyWaxLaw$Sim" (57 : Nat) ({ cls := "TallyWax", name := "hasOn", desc := "(II)I" } : Jvm.MethodName)) := ⟨List.mem_of_getElem? (i := 441) (by decide +kernel), by decide +kernel⟩
theorem k_RX4_57 : lkV RX4 57 yX3_hasOn cX3_hasOn 4 (Option.some FieldType.int) 2 := ⟨tw_417, tw_284, tw_285, tw_1, gw_286, ⟨⟨by decide +kernel, by decide +kernel⟩, by decide +kernel⟩⟩
theorem tw_418 : tw (Jvm.Cond.methodLink "TallyWaxLaw$Sim" (61 : Nat) ({ cls := "TallyWax", name := "debtorOf", desc := "(II)I" } : Jvm.MethodName)) := ⟨List.mem_of_getElem? (i := 442) (by decide +kernel), by decide +kernel⟩
theorem k_RX4_61 : lkV RX4 61 yX3_debtorOf cX3_debtorOf 3 (Option.some FieldType.int) 2 := ⟨tw_418, tw_247, tw_248, tw_1, gw_249, ⟨⟨by decide +kernel, by decide +kernel⟩, by decide +kernel⟩⟩
theorem tw_419 : tw (Jvm.Cond.methodLink "TallyWaxLaw$Sim" (64 : Nat) ({ cls := "TallyWax", name := "creditorOf", desc := "(II)I" } : Jvm.MethodName)) := ⟨List.mem_of_getElem? (i := 443) (by decide +kernel), by decide +kernel⟩
theorem k_RX4_64 : lkV RX4 64 yX3_creditorOf cX3_creditorOf 3 (Option.some FieldType.int) 2 := ⟨tw_419, tw_256, tw_257, tw_1, gw_258, ⟨⟨by decide +kernel, by decide +kernel⟩, by decide +kernel⟩⟩
theorem tw_420 : tw (Jvm.Cond.methodLink "TallyWaxLaw$Sim" (67 : Nat) ({ cls := "TallyWax", name := "amountOf", desc := "(II)I" } : Jvm.MethodName)) := ⟨List.mem_of_getElem? (i := 444) (by decide +kernel), by decide +kernel⟩
theorem k_RX4_67 : lkV RX4 67 yX3_amountOf cX3_amountOf 3 (Option.some FieldType.int) 2 := ⟨tw_420, tw_260, tw_261, tw_1, gw_262, ⟨⟨by decide +kernel, by decide +kernel⟩, by decide +kernel⟩⟩
theorem tw_421 : tw (Jvm.Cond.methodLink "TallyWaxLaw$Sim" (70 : Nat) ({ cls := "TallyWax", name := "isWitnessed", desc := "(II)Z" } : Jvm.MethodName)) := ⟨List.mem_of_getElem? (i := 445) (by decide +kernel), by decide +kernel⟩
theorem k_RX4_70 : lkV RX4 70 yX3_isWitnessed cX3_isWitnessed 3 (Option.some FieldType.boolean) 2 := ⟨tw_421, tw_264, tw_265, tw_1, gw_266, ⟨⟨by decide +kernel, by decide +kernel⟩, by decide +kernel⟩⟩
theorem tw_422 : tw (Jvm.Cond.methodLink "TallyWaxLaw$Sim" (73 : Nat) ({ cls := "TallyWax", name := "isThere", desc := "(I)Z" } : Jvm.MethodName)) := ⟨List.mem_of_getElem? (i := 446) (by decide +kernel), by decide +kernel⟩
theorem k_RX4_73 : lkV RX4 73 yX3_isThere cX3_isThere 2 (Option.some FieldType.boolean) 1 := ⟨tw_422, tw_208, tw_209, tw_1, gw_210, ⟨⟨by decide +kernel, by decide +kernel⟩, by decide +kernel⟩⟩
theorem tw_423 : tw (Jvm.Cond.methodLink "TallyWaxLaw$Sim" (76 : Nat) ({ cls := "TallyWax", name := "has", desc := "(I)I" } : Jvm.MethodName)) := ⟨List.mem_of_getElem? (i := 447) (by decide +kernel), by decide +kernel⟩
theorem k_RX4_76 : lkV RX4 76 yX3_has cX3_has 2 (Option.some FieldType.int) 1 := ⟨tw_423, tw_272, tw_273, tw_1, gw_274, ⟨⟨by decide +kernel, by decide +kernel⟩, by decide +kernel⟩⟩
theorem tw_424 : tw (Jvm.Cond.methodLink "TallyWaxLaw$Sim" (78 : Nat) ({ cls := "TallyWax", name := "owes", desc := "(II)I" } : Jvm.MethodName)) := ⟨List.mem_of_getElem? (i := 448) (by decide +kernel), by decide +kernel⟩
theorem k_RX4_78 : lkV RX4 78 yX3_owes cX3_owes 8 (Option.some FieldType.int) 2 := ⟨tw_424, tw_288, tw_289, tw_1, gw_290, ⟨⟨by decide +kernel, by decide +kernel⟩, by decide +kernel⟩⟩
theorem tw_425 : tw (Jvm.Cond.methodLink "TallyWaxLaw$Sim" (81 : Nat) ({ cls := "TallyWax", name := "year", desc := "()I" } : Jvm.MethodName)) := ⟨List.mem_of_getElem? (i := 449) (by decide +kernel), by decide +kernel⟩
theorem k_RX4_81 : lkV RX4 81 yX3_year cX3_year 1 (Option.some FieldType.int) 0 := ⟨tw_425, tw_188, tw_189, tw_1, gw_190, ⟨⟨by decide +kernel, by decide +kernel⟩, by decide +kernel⟩⟩
theorem tw_426 : tw (Jvm.Cond.methodLink "TallyWaxLaw$Sim" (84 : Nat) ({ cls := "TallyWax", name := "tablets", desc := "()I" } : Jvm.MethodName)) := ⟨List.mem_of_getElem? (i := 450) (by decide +kernel), by decide +kernel⟩
theorem k_RX4_84 : lkV RX4 84 yX3_tablets cX3_tablets 1 (Option.some FieldType.int) 0 := ⟨tw_426, tw_192, tw_193, tw_1, gw_194, ⟨⟨by decide +kernel, by decide +kernel⟩, by decide +kernel⟩⟩
theorem tw_427 : tw (Jvm.Cond.methodLink "TallyWaxLaw$Sim" (86 : Nat) ({ cls := "TallyWax", name := "lines", desc := "()I" } : Jvm.MethodName)) := ⟨List.mem_of_getElem? (i := 451) (by decide +kernel), by decide +kernel⟩
theorem k_RX4_86 : lkV RX4 86 yX3_lines cX3_lines 6 (Option.some FieldType.int) 0 := ⟨tw_427, tw_196, tw_197, tw_1, gw_198, ⟨⟨by decide +kernel, by decide +kernel⟩, by decide +kernel⟩⟩
theorem tw_428 : tw (Jvm.Cond.methodLink "TallyWaxLaw$Sim" (88 : Nat) ({ cls := "TallyWax", name := "melted", desc := "()I" } : Jvm.MethodName)) := ⟨List.mem_of_getElem? (i := 452) (by decide +kernel), by decide +kernel⟩
theorem k_RX4_88 : lkV RX4 88 yX3_melted cX3_melted 1 (Option.some FieldType.int) 0 := ⟨tw_428, tw_200, tw_201, tw_1, gw_202, ⟨⟨by decide +kernel, by decide +kernel⟩, by decide +kernel⟩⟩
theorem tw_429 : tw (Jvm.Cond.methodLink "TallyWaxLaw$Sim" (90 : Nat) ({ cls := "TallyWax", name := "denied", desc := "()I" } : Jvm.MethodName)) := ⟨List.mem_of_getElem? (i := 453) (by decide +kernel), by decide +kernel⟩
theorem k_RX4_90 : lkV RX4 90 yX3_denied cX3_denied 1 (Option.some FieldType.int) 0 := ⟨tw_429, tw_204, tw_205, tw_1, gw_206, ⟨⟨by decide +kernel, by decide +kernel⟩, by decide +kernel⟩⟩
theorem tw_430 : tw (Jvm.Cond.methodLink "TallyWaxLaw$Sim" (95 : Nat) ({ cls := "TallyWax", name := "total", desc := "()I" } : Jvm.MethodName)) := ⟨List.mem_of_getElem? (i := 454) (by decide +kernel), by decide +kernel⟩
theorem k_RX4_95 : lkV RX4 95 yX3_total cX3_total 6 (Option.some FieldType.int) 0 := ⟨tw_430, tw_296, tw_297, tw_1, gw_298, ⟨⟨by decide +kernel, by decide +kernel⟩, by decide +kernel⟩⟩
theorem tw_433 : tw (Jvm.Cond.selects "TallyWaxLaw$Sim" ({ cls := "TallyWaxLaw$Sim", name := "total", desc := "()I" } : Jvm.MethodName) ({ cls := "TallyWaxLaw$Sim", name := "total", desc := "()I" } : Jvm.MethodName)) := ⟨List.mem_of_getElem? (i := 457) (by decide +kernel), by decide +kernel⟩
theorem tw_431 : tw (Jvm.Cond.methodLink "TallyWaxLaw$Sim" (98 : Nat) ({ cls := "TallyWaxLaw$Sim", name := "total", desc := "()I" } : Jvm.MethodName)) := ⟨List.mem_of_getElem? (i := 455) (by decide +kernel), by decide +kernel⟩
theorem tw_432 : tw (Jvm.Cond.instanceMethod ({ cls := "TallyWaxLaw$Sim", name := "total", desc := "()I" } : Jvm.MethodName)) := ⟨List.mem_of_getElem? (i := 456) (by decide +kernel), by decide +kernel⟩
theorem gw_434 : ((Jvm.Cond.code ({ cls := "TallyWaxLaw$Sim", name := "total", desc := "()I" } : Jvm.MethodName) prog_6_method_8_code (10 : Nat) (Option.some Jvm.ClassFile.FieldType.int)) : Cond) ∈ lw_tbl ∧ goodWord (Jvm.Cond.code ({ cls := "TallyWaxLaw$Sim", name := "total", desc := "()I" } : Jvm.MethodName) prog_6_method_8_code (10 : Nat) (Option.some Jvm.ClassFile.FieldType.int)) = true := ⟨List.mem_of_getElem? (i := 458) (by decide +kernel), by decide +kernel⟩
theorem k_RX4_98 : lkV RX4 98 yX4_total cX4_total 10 (Option.some FieldType.int) 0 := ⟨tw_431, tw_432, tw_433, tw_4, gw_434, ⟨⟨by decide +kernel, by decide +kernel⟩, by decide +kernel⟩⟩
theorem tw_435 : tw (Jvm.Cond.methodLink "TallyWaxLaw$Sim" (99 : Nat) ({ cls := "TallyWax", name := "richest", desc := "()I" } : Jvm.MethodName)) := ⟨List.mem_of_getElem? (i := 459) (by decide +kernel), by decide +kernel⟩
theorem k_RX4_99 : lkV RX4 99 yX3_richest cX3_richest 5 (Option.some FieldType.int) 0 := ⟨tw_435, tw_304, tw_305, tw_1, gw_306, ⟨⟨by decide +kernel, by decide +kernel⟩, by decide +kernel⟩⟩
theorem tw_436 : tw (Jvm.Cond.methodLink "TallyWaxLaw$Sim" (102 : Nat) ({ cls := "TallyWax", name := "meanAmount", desc := "()D" } : Jvm.MethodName)) := ⟨List.mem_of_getElem? (i := 460) (by decide +kernel), by decide +kernel⟩
theorem k_RX4_102 : lkV RX4 102 yX3_meanAmount cX3_meanAmount 2 (Option.some FieldType.double) 0 := ⟨tw_436, tw_392, tw_393, tw_1, gw_394, ⟨⟨by decide +kernel, by decide +kernel⟩, by decide +kernel⟩⟩
theorem tw_0 : tw (Jvm.Cond.initialized "TallyWaxLaw") := ⟨List.mem_of_getElem? (i := 24) (by decide +kernel), by decide +kernel⟩
theorem tw_437 : tw (Jvm.Cond.methodLink "TallyWaxLaw" (88 : Nat) ({ cls := "TallyWaxLaw", name := "cell", desc := "([II)I" } : Jvm.MethodName)) := ⟨List.mem_of_getElem? (i := 461) (by decide +kernel), by decide +kernel⟩
theorem tw_438 : tw (Jvm.Cond.static ({ cls := "TallyWaxLaw", name := "cell", desc := "([II)I" } : Jvm.MethodName)) := ⟨List.mem_of_getElem? (i := 462) (by decide +kernel), by decide +kernel⟩
theorem gw_439 : ((Jvm.Cond.code ({ cls := "TallyWaxLaw", name := "cell", desc := "([II)I" } : Jvm.MethodName) method_3_code (2 : Nat) (Option.some Jvm.ClassFile.FieldType.int)) : Cond) ∈ lw_tbl ∧ goodWord (Jvm.Cond.code ({ cls := "TallyWaxLaw", name := "cell", desc := "([II)I" } : Jvm.MethodName) method_3_code (2 : Nat) (Option.some Jvm.ClassFile.FieldType.int)) = true := ⟨List.mem_of_getElem? (i := 463) (by decide +kernel), by decide +kernel⟩
theorem k_RL_88 : lkS RL 88 yL_cell cL_cell 2 (Option.some FieldType.int) 2 := ⟨tw_437, tw_438, tw_0, gw_439, ⟨⟨by decide +kernel, by decide +kernel⟩, by decide +kernel⟩⟩
theorem tw_440 : tw (Jvm.Cond.constant "TallyWaxLaw" (8 : Nat) (790386105 : Int32)) := ⟨List.mem_of_getElem? (i := 464) (by decide +kernel), by decide +kernel⟩
theorem tw_441 : tw (Jvm.Cond.methodLink "TallyWaxLaw" (92 : Nat) ({ cls := "TallyWaxLaw", name := "act", desc := "(LTallyWax;LTallyWaxLaw$Sim;I)Z" } : Jvm.MethodName)) := ⟨List.mem_of_getElem? (i := 465) (by decide +kernel), by decide +kernel⟩
theorem tw_442 : tw (Jvm.Cond.static ({ cls := "TallyWaxLaw", name := "act", desc := "(LTallyWax;LTallyWaxLaw$Sim;I)Z" } : Jvm.MethodName)) := ⟨List.mem_of_getElem? (i := 466) (by decide +kernel), by decide +kernel⟩
theorem gw_443 : ((Jvm.Cond.code ({ cls := "TallyWaxLaw", name := "act", desc := "(LTallyWax;LTallyWaxLaw$Sim;I)Z" } : Jvm.MethodName) method_4_code (19 : Nat) (Option.some Jvm.ClassFile.FieldType.boolean)) : Cond) ∈ lw_tbl ∧ goodWord (Jvm.Cond.code ({ cls := "TallyWaxLaw", name := "act", desc := "(LTallyWax;LTallyWaxLaw$Sim;I)Z" } : Jvm.MethodName) method_4_code (19 : Nat) (Option.some Jvm.ClassFile.FieldType.boolean)) = true := ⟨List.mem_of_getElem? (i := 467) rfl, rfl⟩
theorem k_RL_92 : lkS RL 92 yL_act cL_act 19 (Option.some FieldType.boolean) 3 := ⟨tw_441, tw_442, tw_0, gw_443, ⟨⟨by decide +kernel, by decide +kernel⟩, by decide +kernel⟩⟩
theorem tw_444 : tw (Jvm.Cond.methodLink "TallyWaxLaw" (15 : Nat) ({ cls := "TallyWaxLaw", name := "below", desc := "(II)I" } : Jvm.MethodName)) := ⟨List.mem_of_getElem? (i := 468) (by decide +kernel), by decide +kernel⟩
theorem tw_445 : tw (Jvm.Cond.static ({ cls := "TallyWaxLaw", name := "below", desc := "(II)I" } : Jvm.MethodName)) := ⟨List.mem_of_getElem? (i := 469) (by decide +kernel), by decide +kernel⟩
theorem gw_446 : ((Jvm.Cond.code ({ cls := "TallyWaxLaw", name := "below", desc := "(II)I" } : Jvm.MethodName) method_2_code (2 : Nat) (Option.some Jvm.ClassFile.FieldType.int)) : Cond) ∈ lw_tbl ∧ goodWord (Jvm.Cond.code ({ cls := "TallyWaxLaw", name := "below", desc := "(II)I" } : Jvm.MethodName) method_2_code (2 : Nat) (Option.some Jvm.ClassFile.FieldType.int)) = true := ⟨List.mem_of_getElem? (i := 470) (by decide +kernel), by decide +kernel⟩
theorem k_RL_15 : lkS RL 15 yL_below cL_below 2 (Option.some FieldType.int) 2 := ⟨tw_444, tw_445, tw_0, gw_446, ⟨⟨by decide +kernel, by decide +kernel⟩, by decide +kernel⟩⟩
theorem tw_447 : tw (Jvm.Cond.constant "TallyWaxLaw" (7 : Nat) (2147483647 : Int32)) := ⟨List.mem_of_getElem? (i := 471) (by decide +kernel), by decide +kernel⟩
theorem tw_448 : tw (Jvm.Cond.methodLink "TallyWaxLaw" (21 : Nat) ({ cls := "TallyWaxLaw$Sim", name := "with", desc := "([[I[I)[[I" } : Jvm.MethodName)) := ⟨List.mem_of_getElem? (i := 472) (by decide +kernel), by decide +kernel⟩
theorem tw_449 : tw (Jvm.Cond.static ({ cls := "TallyWaxLaw$Sim", name := "with", desc := "([[I[I)[[I" } : Jvm.MethodName)) := ⟨List.mem_of_getElem? (i := 473) (by decide +kernel), by decide +kernel⟩
theorem gw_450 : ((Jvm.Cond.code ({ cls := "TallyWaxLaw$Sim", name := "with", desc := "([[I[I)[[I" } : Jvm.MethodName) prog_6_method_2_code (4 : Nat) (Option.some (Jvm.ClassFile.FieldType.array (Jvm.ClassFile.FieldType.array Jvm.ClassFile.FieldType.int)))) : Cond) ∈ lw_tbl ∧ goodWord (Jvm.Cond.code ({ cls := "TallyWaxLaw$Sim", name := "with", desc := "([[I[I)[[I" } : Jvm.MethodName) prog_6_method_2_code (4 : Nat) (Option.some (Jvm.ClassFile.FieldType.array (Jvm.ClassFile.FieldType.array Jvm.ClassFile.FieldType.int)))) = true := ⟨List.mem_of_getElem? (i := 474) (by decide +kernel), by decide +kernel⟩
theorem k_RL_21 : lkS RL 21 yX4_with cX4_with 4 (Option.some (FieldType.array (FieldType.array FieldType.int))) 2 := ⟨tw_448, tw_449, tw_4, gw_450, ⟨⟨by decide +kernel, by decide +kernel⟩, by decide +kernel⟩⟩
theorem tw_453 : tw (Jvm.Cond.selects "TallyWax" ({ cls := "TallyWax", name := "addTablet", desc := "(I)I" } : Jvm.MethodName) ({ cls := "TallyWax", name := "addTablet", desc := "(I)I" } : Jvm.MethodName)) := ⟨List.mem_of_getElem? (i := 477) (by decide +kernel), by decide +kernel⟩
theorem tw_451 : tw (Jvm.Cond.methodLink "TallyWaxLaw" (25 : Nat) ({ cls := "TallyWax", name := "addTablet", desc := "(I)I" } : Jvm.MethodName)) := ⟨List.mem_of_getElem? (i := 475) (by decide +kernel), by decide +kernel⟩
theorem tw_452 : tw (Jvm.Cond.instanceMethod ({ cls := "TallyWax", name := "addTablet", desc := "(I)I" } : Jvm.MethodName)) := ⟨List.mem_of_getElem? (i := 476) (by decide +kernel), by decide +kernel⟩
theorem gw_454 : ((Jvm.Cond.code ({ cls := "TallyWax", name := "addTablet", desc := "(I)I" } : Jvm.MethodName) prog_1_method_2_code (3 : Nat) (Option.some Jvm.ClassFile.FieldType.int)) : Cond) ∈ lw_tbl ∧ goodWord (Jvm.Cond.code ({ cls := "TallyWax", name := "addTablet", desc := "(I)I" } : Jvm.MethodName) prog_1_method_2_code (3 : Nat) (Option.some Jvm.ClassFile.FieldType.int)) = true := ⟨List.mem_of_getElem? (i := 478) (by decide +kernel), by decide +kernel⟩
theorem k_RL_25 : lkV RL 25 yX3_addTablet cX3_addTablet 3 (Option.some FieldType.int) 1 := ⟨tw_451, tw_452, tw_453, tw_1, gw_454, ⟨⟨by decide +kernel, by decide +kernel⟩, by decide +kernel⟩⟩
theorem sw_455 : ((Jvm.Cond.stringRef "TallyWax" (35 : Nat) "hardness is not 1 to 9") : Cond) ∈ lw_tbl := List.mem_of_getElem? (i := 479) (by decide +kernel)
theorem tw_456 : tw (Jvm.Cond.classLink "TallyWax" (44 : Nat) "java/lang/IllegalStateException") := ⟨List.mem_of_getElem? (i := 480) (by decide +kernel), by decide +kernel⟩
theorem sw_465 : ((Jvm.Cond.stringRef "TallyWax" (46 : Nat) "there are 8 tablets") : Cond) ∈ lw_tbl := List.mem_of_getElem? (i := 489) (by decide +kernel)
theorem tw_466 : tw (Jvm.Cond.methodLink "TallyWax" (48 : Nat) ({ cls := "java/lang/IllegalStateException", name := "<init>", desc := "(Ljava/lang/String;)V" } : Jvm.MethodName)) := ⟨List.mem_of_getElem? (i := 490) (by decide +kernel), by decide +kernel⟩
theorem tw_472 : tw (Jvm.Cond.methodLinkNest "TallyWax" (49 : Nat) ({ cls := "TallyWax$Tablet", name := "<init>", desc := "(I)V" } : Jvm.MethodName) "TallyWax") := ⟨List.mem_of_getElem? (i := 496) (by decide +kernel), by decide +kernel⟩
theorem tw_473 : tw (Jvm.Cond.instanceMethod ({ cls := "TallyWax$Tablet", name := "<init>", desc := "(I)V" } : Jvm.MethodName)) := ⟨List.mem_of_getElem? (i := 497) (by decide +kernel), by decide +kernel⟩
theorem gw_474 : ((Jvm.Cond.code ({ cls := "TallyWax$Tablet", name := "<init>", desc := "(I)V" } : Jvm.MethodName) prog_4_method_1_code (2 : Nat) (Option.none : Option Jvm.ClassFile.FieldType)) : Cond) ∈ lw_tbl ∧ goodWord (Jvm.Cond.code ({ cls := "TallyWax$Tablet", name := "<init>", desc := "(I)V" } : Jvm.MethodName) prog_4_method_1_code (2 : Nat) (Option.none : Option Jvm.ClassFile.FieldType)) = true := ⟨List.mem_of_getElem? (i := 498) (by decide +kernel), by decide +kernel⟩
theorem k_RX3_49 : lkI RX3 49 yX2_init cX2_init 2 1 := ⟨Or.inr ⟨_, tw_472⟩, tw_473, tw_10, gw_474, ⟨⟨by decide +kernel, by decide +kernel⟩, by decide +kernel⟩, rfl⟩
theorem tw_475 : tw (Jvm.Cond.methodLink "TallyWax$Tablet" (1 : Nat) ({ cls := "java/lang/Object", name := "<init>", desc := "()V" } : Jvm.MethodName)) := ⟨List.mem_of_getElem? (i := 499) (by decide +kernel), by decide +kernel⟩
theorem tw_476 : tw (Jvm.Cond.classLink "TallyWax$Tablet" (7 : Nat) "TallyWax$LineList") := ⟨List.mem_of_getElem? (i := 500) (by decide +kernel), by decide +kernel⟩
theorem k_RX2_7 : lkC RX2 7 0 5 [.null, .null, .null, .null, .int 0] := by
  refine ⟨RX0, TX0, rfl, tw_476.1, tw_31.1, tw_3.1, fun ty0 h j hj => ?_⟩
  have hj2 := h j hj
  rcases (show j = 0 ∨ j = 1 ∨ j = 2 ∨ j = 3 ∨ j = 4 by omega) with rfl | rfl | rfl | rfl | rfl <;>
    (rw [Option.some.inj (hj2.symm.trans (tyX0_ok _ hj))]; rfl)
theorem tw_477 : tw (Jvm.Cond.methodLinkNest "TallyWax$Tablet" (9 : Nat) ({ cls := "TallyWax$LineList", name := "<init>", desc := "()V" } : Jvm.MethodName) "TallyWax") := ⟨List.mem_of_getElem? (i := 501) (by decide +kernel), by decide +kernel⟩
theorem k_RX2_9 : lkI RX2 9 yX0_init cX0_init 1 0 := ⟨Or.inr ⟨_, tw_477⟩, tw_33, tw_3, gw_34, ⟨⟨by decide +kernel, by decide +kernel⟩, by decide +kernel⟩, rfl⟩
theorem tw_478 : tw (Jvm.Cond.fieldLink "TallyWax$Tablet" (16 : Nat) "TallyWax$Tablet" "hardness" "I") := ⟨List.mem_of_getElem? (i := 502) (by decide +kernel), by decide +kernel⟩
theorem k_RX2_16 : lkF RX2 16 2 0 := ⟨RX2, TX2, 3, rfl, by decide, Or.inl tw_478.1⟩
theorem ko_RX2_16 : lkFo RX2 16 2 0 := ⟨RX2, TX2, 3, rfl, by decide, tw_478.1⟩
theorem tw_479 : tw (Jvm.Cond.fieldLink "TallyWax$Tablet" (20 : Nat) "TallyWax$Tablet" "inCellar" "Z") := ⟨List.mem_of_getElem? (i := 503) (by decide +kernel), by decide +kernel⟩
theorem k_RX2_20 : lkF RX2 20 2 1 := ⟨RX2, TX2, 3, rfl, by decide, Or.inl tw_479.1⟩
theorem tw_480 : tw (Jvm.Cond.fieldLinkNest "TallyWax" (122 : Nat) "TallyWax$Tablet" "inCellar" "Z" "TallyWax") := ⟨List.mem_of_getElem? (i := 504) (by decide +kernel), by decide +kernel⟩
theorem k_RX3_122 : lkF RX3 122 2 1 := ⟨RX2, TX2, 3, rfl, by decide, Or.inr ⟨_, tw_480.1⟩⟩
theorem tw_481 : tw (Jvm.Cond.fieldLink "TallyWax$Tablet" (10 : Nat) "TallyWax$Tablet" "lines" "LTallyWax$LineList;") := ⟨List.mem_of_getElem? (i := 505) (by decide +kernel), by decide +kernel⟩
theorem k_RX2_10 : lkF RX2 10 2 2 := ⟨RX2, TX2, 3, rfl, by decide, Or.inl tw_481.1⟩
theorem ko_RX2_10 : lkFo RX2 10 2 2 := ⟨RX2, TX2, 3, rfl, by decide, tw_481.1⟩
theorem tw_482 : tw (Jvm.Cond.fieldLinkNest "TallyWax" (56 : Nat) "TallyWax$Tablet" "lines" "LTallyWax$LineList;" "TallyWax") := ⟨List.mem_of_getElem? (i := 506) (by decide +kernel), by decide +kernel⟩
theorem k_RX3_56 : lkF RX3 56 2 2 := ⟨RX2, TX2, 3, rfl, by decide, Or.inr ⟨_, tw_482.1⟩⟩
theorem tw_490 : tw (Jvm.Cond.methodLink "TallyWaxLaw" (35 : Nat) ({ cls := "java/lang/Math", name := "min", desc := "(II)I" } : Jvm.MethodName)) := ⟨List.mem_of_getElem? (i := 514) (by decide +kernel), by decide +kernel⟩
theorem tw_491 : tw (Jvm.Cond.methodLink "TallyWaxLaw" (40 : Nat) ({ cls := "TallyWaxLaw$Sim", name := "without", desc := "([[II)[[I" } : Jvm.MethodName)) := ⟨List.mem_of_getElem? (i := 515) (by decide +kernel), by decide +kernel⟩
theorem tw_492 : tw (Jvm.Cond.static ({ cls := "TallyWaxLaw$Sim", name := "without", desc := "([[II)[[I" } : Jvm.MethodName)) := ⟨List.mem_of_getElem? (i := 516) (by decide +kernel), by decide +kernel⟩
theorem gw_493 : ((Jvm.Cond.code ({ cls := "TallyWaxLaw$Sim", name := "without", desc := "([[II)[[I" } : Jvm.MethodName) prog_6_method_3_code (4 : Nat) (Option.some (Jvm.ClassFile.FieldType.array (Jvm.ClassFile.FieldType.array Jvm.ClassFile.FieldType.int)))) : Cond) ∈ lw_tbl ∧ goodWord (Jvm.Cond.code ({ cls := "TallyWaxLaw$Sim", name := "without", desc := "([[II)[[I" } : Jvm.MethodName) prog_6_method_3_code (4 : Nat) (Option.some (Jvm.ClassFile.FieldType.array (Jvm.ClassFile.FieldType.array Jvm.ClassFile.FieldType.int)))) = true := ⟨List.mem_of_getElem? (i := 517) (by decide +kernel), by decide +kernel⟩
theorem k_RL_40 : lkS RL 40 yX4_without cX4_without 4 (Option.some (FieldType.array (FieldType.array FieldType.int))) 2 := ⟨tw_491, tw_492, tw_4, gw_493, ⟨⟨by decide +kernel, by decide +kernel⟩, by decide +kernel⟩⟩
theorem tw_496 : tw (Jvm.Cond.selects "TallyWax" ({ cls := "TallyWax", name := "pay", desc := "(III)I" } : Jvm.MethodName) ({ cls := "TallyWax", name := "pay", desc := "(III)I" } : Jvm.MethodName)) := ⟨List.mem_of_getElem? (i := 520) (by decide +kernel), by decide +kernel⟩
theorem tw_494 : tw (Jvm.Cond.methodLink "TallyWaxLaw" (44 : Nat) ({ cls := "TallyWax", name := "pay", desc := "(III)I" } : Jvm.MethodName)) := ⟨List.mem_of_getElem? (i := 518) (by decide +kernel), by decide +kernel⟩
theorem tw_495 : tw (Jvm.Cond.instanceMethod ({ cls := "TallyWax", name := "pay", desc := "(III)I" } : Jvm.MethodName)) := ⟨List.mem_of_getElem? (i := 519) (by decide +kernel), by decide +kernel⟩
theorem gw_497 : ((Jvm.Cond.code ({ cls := "TallyWax", name := "pay", desc := "(III)I" } : Jvm.MethodName) prog_1_method_4_code (6 : Nat) (Option.some Jvm.ClassFile.FieldType.int)) : Cond) ∈ lw_tbl ∧ goodWord (Jvm.Cond.code ({ cls := "TallyWax", name := "pay", desc := "(III)I" } : Jvm.MethodName) prog_1_method_4_code (6 : Nat) (Option.some Jvm.ClassFile.FieldType.int)) = true := ⟨List.mem_of_getElem? (i := 521) (by decide +kernel), by decide +kernel⟩
theorem k_RL_44 : lkV RL 44 yX3_pay cX3_pay 6 (Option.some FieldType.int) 3 := ⟨tw_494, tw_495, tw_496, tw_1, gw_497, ⟨⟨by decide +kernel, by decide +kernel⟩, by decide +kernel⟩⟩
theorem sw_498 : ((Jvm.Cond.stringRef "TallyWax" (91 : Nat) "amount is not 1 to the amount of the line") : Cond) ∈ lw_tbl := List.mem_of_getElem? (i := 522) (by decide +kernel)
theorem twp_22 : tw (.selects "TallyWax$LineList" ({ cls := "TallyWax$LineList", name := "takeOut", desc := "(I)V" } : Jvm.MethodName) ({ cls := "TallyWax$LineList", name := "takeOut", desc := "(I)V" } : Jvm.MethodName)) := ⟨List.mem_of_getElem? (i := 22) (by decide +kernel), by decide +kernel⟩
theorem tw_499 : tw (Jvm.Cond.methodLinkNest "TallyWax" (93 : Nat) ({ cls := "TallyWax$LineList", name := "takeOut", desc := "(I)V" } : Jvm.MethodName) "TallyWax") := ⟨List.mem_of_getElem? (i := 523) (by decide +kernel), by decide +kernel⟩
theorem tw_501 : tw (Jvm.Cond.instanceMethod ({ cls := "TallyWax$LineList", name := "takeOut", desc := "(I)V" } : Jvm.MethodName)) := ⟨List.mem_of_getElem? (i := 525) (by decide +kernel), by decide +kernel⟩
theorem gw_502 : ((Jvm.Cond.code ({ cls := "TallyWax$LineList", name := "takeOut", desc := "(I)V" } : Jvm.MethodName) prog_2_method_3_code (4 : Nat) (Option.none : Option Jvm.ClassFile.FieldType)) : Cond) ∈ lw_tbl ∧ goodWord (Jvm.Cond.code ({ cls := "TallyWax$LineList", name := "takeOut", desc := "(I)V" } : Jvm.MethodName) prog_2_method_3_code (4 : Nat) (Option.none : Option Jvm.ClassFile.FieldType)) = true := ⟨List.mem_of_getElem? (i := 526) (by decide +kernel), by decide +kernel⟩
theorem k_RX3_93 : lkVN RX3 93 yX0_takeOut cX0_takeOut 4 (Option.none : Option FieldType) 1 := ⟨⟨_, tw_499⟩, tw_501, twp_22, tw_3, gw_502, ⟨⟨by decide +kernel, by decide +kernel⟩, by decide +kernel⟩⟩
theorem tw_503 : tw (Jvm.Cond.methodLink "TallyWax$LineList" (28 : Nat) ({ cls := "TallyWax$LineList", name := "append", desc := "(IIII)V" } : Jvm.MethodName)) := ⟨List.mem_of_getElem? (i := 527) (by decide +kernel), by decide +kernel⟩
theorem k_RX0_28 : lkV RX0 28 yX0_append cX0_append 6 (Option.none : Option FieldType) 4 := ⟨tw_503, tw_369, twp_19, tw_3, gw_370, ⟨⟨by decide +kernel, by decide +kernel⟩, by decide +kernel⟩⟩
theorem tw_506 : tw (Jvm.Cond.selects "TallyWax" ({ cls := "TallyWax", name := "deny", desc := "(II)I" } : Jvm.MethodName) ({ cls := "TallyWax", name := "deny", desc := "(II)I" } : Jvm.MethodName)) := ⟨List.mem_of_getElem? (i := 530) (by decide +kernel), by decide +kernel⟩
theorem tw_504 : tw (Jvm.Cond.methodLink "TallyWaxLaw" (56 : Nat) ({ cls := "TallyWax", name := "deny", desc := "(II)I" } : Jvm.MethodName)) := ⟨List.mem_of_getElem? (i := 528) (by decide +kernel), by decide +kernel⟩
theorem tw_505 : tw (Jvm.Cond.instanceMethod ({ cls := "TallyWax", name := "deny", desc := "(II)I" } : Jvm.MethodName)) := ⟨List.mem_of_getElem? (i := 529) (by decide +kernel), by decide +kernel⟩
theorem gw_507 : ((Jvm.Cond.code ({ cls := "TallyWax", name := "deny", desc := "(II)I" } : Jvm.MethodName) prog_1_method_5_code (5 : Nat) (Option.some Jvm.ClassFile.FieldType.int)) : Cond) ∈ lw_tbl ∧ goodWord (Jvm.Cond.code ({ cls := "TallyWax", name := "deny", desc := "(II)I" } : Jvm.MethodName) prog_1_method_5_code (5 : Nat) (Option.some Jvm.ClassFile.FieldType.int)) = true := ⟨List.mem_of_getElem? (i := 531) (by decide +kernel), by decide +kernel⟩
theorem k_RL_56 : lkV RL 56 yX3_deny cX3_deny 5 (Option.some FieldType.int) 2 := ⟨tw_504, tw_505, tw_506, tw_1, gw_507, ⟨⟨by decide +kernel, by decide +kernel⟩, by decide +kernel⟩⟩
theorem sw_508 : ((Jvm.Cond.stringRef "TallyWax" (99 : Nat) "the line is witnessed") : Cond) ∈ lw_tbl := List.mem_of_getElem? (i := 532) (by decide +kernel)
theorem sw_509 : ((Jvm.Cond.stringRef "TallyWax" (104 : Nat) "the debtor is gone") : Cond) ∈ lw_tbl := List.mem_of_getElem? (i := 533) (by decide +kernel)
theorem tw_512 : tw (Jvm.Cond.selects "TallyWaxLaw$Sim" ({ cls := "TallyWaxLaw$Sim", name := "smooth", desc := "(I)[[I" } : Jvm.MethodName) ({ cls := "TallyWaxLaw$Sim", name := "smooth", desc := "(I)[[I" } : Jvm.MethodName)) := ⟨List.mem_of_getElem? (i := 536) (by decide +kernel), by decide +kernel⟩
theorem tw_510 : tw (Jvm.Cond.methodLink "TallyWaxLaw" (59 : Nat) ({ cls := "TallyWaxLaw$Sim", name := "smooth", desc := "(I)[[I" } : Jvm.MethodName)) := ⟨List.mem_of_getElem? (i := 534) (by decide +kernel), by decide +kernel⟩
theorem tw_511 : tw (Jvm.Cond.instanceMethod ({ cls := "TallyWaxLaw$Sim", name := "smooth", desc := "(I)[[I" } : Jvm.MethodName)) := ⟨List.mem_of_getElem? (i := 535) (by decide +kernel), by decide +kernel⟩
theorem gw_513 : ((Jvm.Cond.code ({ cls := "TallyWaxLaw$Sim", name := "smooth", desc := "(I)[[I" } : Jvm.MethodName) prog_6_method_5_code (8 : Nat) (Option.some (Jvm.ClassFile.FieldType.array (Jvm.ClassFile.FieldType.array Jvm.ClassFile.FieldType.int)))) : Cond) ∈ lw_tbl ∧ goodWord (Jvm.Cond.code ({ cls := "TallyWaxLaw$Sim", name := "smooth", desc := "(I)[[I" } : Jvm.MethodName) prog_6_method_5_code (8 : Nat) (Option.some (Jvm.ClassFile.FieldType.array (Jvm.ClassFile.FieldType.array Jvm.ClassFile.FieldType.int)))) = true := ⟨List.mem_of_getElem? (i := 537) (by decide +kernel), by decide +kernel⟩
theorem k_RL_59 : lkV RL 59 yX4_smooth cX4_smooth 8 (Option.some (FieldType.array (FieldType.array FieldType.int))) 1 := ⟨tw_510, tw_511, tw_512, tw_4, gw_513, ⟨⟨by decide +kernel, by decide +kernel⟩, by decide +kernel⟩⟩
theorem tw_514 : tw (Jvm.Cond.methodLink "TallyWaxLaw$Sim" (31 : Nat) ({ cls := "TallyWaxLaw$Sim", name := "with", desc := "([[I[I)[[I" } : Jvm.MethodName)) := ⟨List.mem_of_getElem? (i := 538) (by decide +kernel), by decide +kernel⟩
theorem k_RX4_31 : lkS RX4 31 yX4_with cX4_with 4 (Option.some (FieldType.array (FieldType.array FieldType.int))) 2 := ⟨tw_514, tw_449, tw_4, gw_450, ⟨⟨by decide +kernel, by decide +kernel⟩, by decide +kernel⟩⟩
theorem tw_517 : tw (Jvm.Cond.selects "TallyWax" ({ cls := "TallyWax", name := "smooth", desc := "(I)I" } : Jvm.MethodName) ({ cls := "TallyWax", name := "smooth", desc := "(I)I" } : Jvm.MethodName)) := ⟨List.mem_of_getElem? (i := 541) (by decide +kernel), by decide +kernel⟩
theorem tw_515 : tw (Jvm.Cond.methodLink "TallyWaxLaw" (63 : Nat) ({ cls := "TallyWax", name := "smooth", desc := "(I)I" } : Jvm.MethodName)) := ⟨List.mem_of_getElem? (i := 539) (by decide +kernel), by decide +kernel⟩
theorem tw_516 : tw (Jvm.Cond.instanceMethod ({ cls := "TallyWax", name := "smooth", desc := "(I)I" } : Jvm.MethodName)) := ⟨List.mem_of_getElem? (i := 540) (by decide +kernel), by decide +kernel⟩
theorem gw_518 : ((Jvm.Cond.code ({ cls := "TallyWax", name := "smooth", desc := "(I)I" } : Jvm.MethodName) prog_1_method_6_code (3 : Nat) (Option.some Jvm.ClassFile.FieldType.int)) : Cond) ∈ lw_tbl ∧ goodWord (Jvm.Cond.code ({ cls := "TallyWax", name := "smooth", desc := "(I)I" } : Jvm.MethodName) prog_1_method_6_code (3 : Nat) (Option.some Jvm.ClassFile.FieldType.int)) = true := ⟨List.mem_of_getElem? (i := 542) (by decide +kernel), by decide +kernel⟩
theorem k_RL_63 : lkV RL 63 yX3_smooth cX3_smooth 3 (Option.some FieldType.int) 1 := ⟨tw_515, tw_516, tw_517, tw_1, gw_518, ⟨⟨by decide +kernel, by decide +kernel⟩, by decide +kernel⟩⟩
theorem sw_519 : ((Jvm.Cond.stringRef "TallyWax" (113 : Nat) "the smoothing is refused") : Cond) ∈ lw_tbl := List.mem_of_getElem? (i := 543) (by decide +kernel)
theorem twp_23 : tw (.selects "TallyWax$LineList" ({ cls := "TallyWax$LineList", name := "become", desc := "(LTallyWax$LineList;)V" } : Jvm.MethodName) ({ cls := "TallyWax$LineList", name := "become", desc := "(LTallyWax$LineList;)V" } : Jvm.MethodName)) := ⟨List.mem_of_getElem? (i := 23) (by decide +kernel), by decide +kernel⟩
theorem tw_520 : tw (Jvm.Cond.methodLinkNest "TallyWax" (118 : Nat) ({ cls := "TallyWax$LineList", name := "become", desc := "(LTallyWax$LineList;)V" } : Jvm.MethodName) "TallyWax") := ⟨List.mem_of_getElem? (i := 544) (by decide +kernel), by decide +kernel⟩
theorem tw_522 : tw (Jvm.Cond.instanceMethod ({ cls := "TallyWax$LineList", name := "become", desc := "(LTallyWax$LineList;)V" } : Jvm.MethodName)) := ⟨List.mem_of_getElem? (i := 546) (by decide +kernel), by decide +kernel⟩
theorem gw_523 : ((Jvm.Cond.code ({ cls := "TallyWax$LineList", name := "become", desc := "(LTallyWax$LineList;)V" } : Jvm.MethodName) prog_2_method_4_code (3 : Nat) (Option.none : Option Jvm.ClassFile.FieldType)) : Cond) ∈ lw_tbl ∧ goodWord (Jvm.Cond.code ({ cls := "TallyWax$LineList", name := "become", desc := "(LTallyWax$LineList;)V" } : Jvm.MethodName) prog_2_method_4_code (3 : Nat) (Option.none : Option Jvm.ClassFile.FieldType)) = true := ⟨List.mem_of_getElem? (i := 547) (by decide +kernel), by decide +kernel⟩
theorem k_RX3_118 : lkVN RX3 118 yX0_become cX0_become 3 (Option.none : Option FieldType) 1 := ⟨⟨_, tw_520⟩, tw_522, twp_23, tw_3, gw_523, ⟨⟨by decide +kernel, by decide +kernel⟩, by decide +kernel⟩⟩
theorem tw_526 : tw (Jvm.Cond.selects "TallyWax" ({ cls := "TallyWax", name := "turn", desc := "(I)Z" } : Jvm.MethodName) ({ cls := "TallyWax", name := "turn", desc := "(I)Z" } : Jvm.MethodName)) := ⟨List.mem_of_getElem? (i := 550) (by decide +kernel), by decide +kernel⟩
theorem tw_524 : tw (Jvm.Cond.methodLink "TallyWaxLaw" (65 : Nat) ({ cls := "TallyWax", name := "turn", desc := "(I)Z" } : Jvm.MethodName)) := ⟨List.mem_of_getElem? (i := 548) (by decide +kernel), by decide +kernel⟩
theorem tw_525 : tw (Jvm.Cond.instanceMethod ({ cls := "TallyWax", name := "turn", desc := "(I)Z" } : Jvm.MethodName)) := ⟨List.mem_of_getElem? (i := 549) (by decide +kernel), by decide +kernel⟩
theorem gw_527 : ((Jvm.Cond.code ({ cls := "TallyWax", name := "turn", desc := "(I)Z" } : Jvm.MethodName) prog_1_method_7_code (2 : Nat) (Option.some Jvm.ClassFile.FieldType.boolean)) : Cond) ∈ lw_tbl ∧ goodWord (Jvm.Cond.code ({ cls := "TallyWax", name := "turn", desc := "(I)Z" } : Jvm.MethodName) prog_1_method_7_code (2 : Nat) (Option.some Jvm.ClassFile.FieldType.boolean)) = true := ⟨List.mem_of_getElem? (i := 551) (by decide +kernel), by decide +kernel⟩
theorem k_RL_65 : lkV RL 65 yX3_turn cX3_turn 2 (Option.some FieldType.boolean) 1 := ⟨tw_524, tw_525, tw_526, tw_1, gw_527, ⟨⟨by decide +kernel, by decide +kernel⟩, by decide +kernel⟩⟩
theorem tw_530 : tw (Jvm.Cond.selects "TallyWax" ({ cls := "TallyWax", name := "carry", desc := "(I)Z" } : Jvm.MethodName) ({ cls := "TallyWax", name := "carry", desc := "(I)Z" } : Jvm.MethodName)) := ⟨List.mem_of_getElem? (i := 554) (by decide +kernel), by decide +kernel⟩
theorem tw_528 : tw (Jvm.Cond.methodLink "TallyWaxLaw" (69 : Nat) ({ cls := "TallyWax", name := "carry", desc := "(I)Z" } : Jvm.MethodName)) := ⟨List.mem_of_getElem? (i := 552) (by decide +kernel), by decide +kernel⟩
theorem tw_529 : tw (Jvm.Cond.instanceMethod ({ cls := "TallyWax", name := "carry", desc := "(I)Z" } : Jvm.MethodName)) := ⟨List.mem_of_getElem? (i := 553) (by decide +kernel), by decide +kernel⟩
theorem gw_531 : ((Jvm.Cond.code ({ cls := "TallyWax", name := "carry", desc := "(I)Z" } : Jvm.MethodName) prog_1_method_8_code (3 : Nat) (Option.some Jvm.ClassFile.FieldType.boolean)) : Cond) ∈ lw_tbl ∧ goodWord (Jvm.Cond.code ({ cls := "TallyWax", name := "carry", desc := "(I)Z" } : Jvm.MethodName) prog_1_method_8_code (3 : Nat) (Option.some Jvm.ClassFile.FieldType.boolean)) = true := ⟨List.mem_of_getElem? (i := 555) (by decide +kernel), by decide +kernel⟩
theorem k_RL_69 : lkV RL 69 yX3_carry cX3_carry 3 (Option.some FieldType.boolean) 1 := ⟨tw_528, tw_529, tw_530, tw_1, gw_531, ⟨⟨by decide +kernel, by decide +kernel⟩, by decide +kernel⟩⟩
theorem tw_534 : tw (Jvm.Cond.selects "TallyWax" ({ cls := "TallyWax", name := "setHeat", desc := "(II)I" } : Jvm.MethodName) ({ cls := "TallyWax", name := "setHeat", desc := "(II)I" } : Jvm.MethodName)) := ⟨List.mem_of_getElem? (i := 558) (by decide +kernel), by decide +kernel⟩
theorem tw_532 : tw (Jvm.Cond.methodLink "TallyWaxLaw" (76 : Nat) ({ cls := "TallyWax", name := "setHeat", desc := "(II)I" } : Jvm.MethodName)) := ⟨List.mem_of_getElem? (i := 556) (by decide +kernel), by decide +kernel⟩
theorem tw_533 : tw (Jvm.Cond.instanceMethod ({ cls := "TallyWax", name := "setHeat", desc := "(II)I" } : Jvm.MethodName)) := ⟨List.mem_of_getElem? (i := 557) (by decide +kernel), by decide +kernel⟩
theorem gw_535 : ((Jvm.Cond.code ({ cls := "TallyWax", name := "setHeat", desc := "(II)I" } : Jvm.MethodName) prog_1_method_9_code (4 : Nat) (Option.some Jvm.ClassFile.FieldType.int)) : Cond) ∈ lw_tbl ∧ goodWord (Jvm.Cond.code ({ cls := "TallyWax", name := "setHeat", desc := "(II)I" } : Jvm.MethodName) prog_1_method_9_code (4 : Nat) (Option.some Jvm.ClassFile.FieldType.int)) = true := ⟨List.mem_of_getElem? (i := 559) (by decide +kernel), by decide +kernel⟩
theorem k_RL_76 : lkV RL 76 yX3_setHeat cX3_setHeat 4 (Option.some FieldType.int) 2 := ⟨tw_532, tw_533, tw_534, tw_1, gw_535, ⟨⟨by decide +kernel, by decide +kernel⟩, by decide +kernel⟩⟩
theorem sw_536 : ((Jvm.Cond.stringRef "TallyWax" (128 : Nat) "number is not 0 to 9") : Cond) ∈ lw_tbl := List.mem_of_getElem? (i := 560) (by decide +kernel)
theorem sw_537 : ((Jvm.Cond.stringRef "TallyWax" (131 : Nat) "heat is not 0 to 9") : Cond) ∈ lw_tbl := List.mem_of_getElem? (i := 561) (by decide +kernel)
theorem tw_540 : tw (Jvm.Cond.selects "TallyWax" ({ cls := "TallyWax", name := "write", desc := "(IIIII)I" } : Jvm.MethodName) ({ cls := "TallyWax", name := "write", desc := "(IIIII)I" } : Jvm.MethodName)) := ⟨List.mem_of_getElem? (i := 564) (by decide +kernel), by decide +kernel⟩
theorem tw_538 : tw (Jvm.Cond.methodLink "TallyWaxLaw" (83 : Nat) ({ cls := "TallyWax", name := "write", desc := "(IIIII)I" } : Jvm.MethodName)) := ⟨List.mem_of_getElem? (i := 562) (by decide +kernel), by decide +kernel⟩
theorem tw_539 : tw (Jvm.Cond.instanceMethod ({ cls := "TallyWax", name := "write", desc := "(IIIII)I" } : Jvm.MethodName)) := ⟨List.mem_of_getElem? (i := 563) (by decide +kernel), by decide +kernel⟩
theorem gw_541 : ((Jvm.Cond.code ({ cls := "TallyWax", name := "write", desc := "(IIIII)I" } : Jvm.MethodName) prog_1_method_3_code (8 : Nat) (Option.some Jvm.ClassFile.FieldType.int)) : Cond) ∈ lw_tbl ∧ goodWord (Jvm.Cond.code ({ cls := "TallyWax", name := "write", desc := "(IIIII)I" } : Jvm.MethodName) prog_1_method_3_code (8 : Nat) (Option.some Jvm.ClassFile.FieldType.int)) = true := ⟨List.mem_of_getElem? (i := 565) (by decide +kernel), by decide +kernel⟩
theorem k_RL_83 : lkV RL 83 yX3_write cX3_write 8 (Option.some FieldType.int) 5 := ⟨tw_538, tw_539, tw_540, tw_1, gw_541, ⟨⟨by decide +kernel, by decide +kernel⟩, by decide +kernel⟩⟩
theorem sw_542 : ((Jvm.Cond.stringRef "TallyWax" (63 : Nat) "two of the three are the same") : Cond) ∈ lw_tbl := List.mem_of_getElem? (i := 566) (by decide +kernel)
theorem sw_543 : ((Jvm.Cond.stringRef "TallyWax" (65 : Nat) "amount is not 1 to 999") : Cond) ∈ lw_tbl := List.mem_of_getElem? (i := 567) (by decide +kernel)
theorem sw_544 : ((Jvm.Cond.stringRef "TallyWax" (72 : Nat) "the tablet has 12 lines") : Cond) ∈ lw_tbl := List.mem_of_getElem? (i := 568) (by decide +kernel)
theorem sw_545 : ((Jvm.Cond.stringRef "TallyWax" (78 : Nat) "one of the three is gone") : Cond) ∈ lw_tbl := List.mem_of_getElem? (i := 569) (by decide +kernel)
theorem tw_546 : tw (Jvm.Cond.methodLinkNest "TallyWax" (80 : Nat) ({ cls := "TallyWax$LineList", name := "append", desc := "(IIII)V" } : Jvm.MethodName) "TallyWax") := ⟨List.mem_of_getElem? (i := 570) (by decide +kernel), by decide +kernel⟩
theorem k_RX3_80 : lkVN RX3 80 yX0_append cX0_append 6 (Option.none : Option FieldType) 4 := ⟨⟨_, tw_546⟩, tw_369, twp_19, tw_3, gw_370, ⟨⟨by decide +kernel, by decide +kernel⟩, by decide +kernel⟩⟩
theorem tw_547 : tw (Jvm.Cond.methodLink "TallyWaxLaw" (97 : Nat) ({ cls := "TallyWaxLaw", name := "build", desc := "(LTallyWax;[I)LTallyWaxLaw$Sim;" } : Jvm.MethodName)) := ⟨List.mem_of_getElem? (i := 571) (by decide +kernel), by decide +kernel⟩
theorem tw_548 : tw (Jvm.Cond.static ({ cls := "TallyWaxLaw", name := "build", desc := "(LTallyWax;[I)LTallyWaxLaw$Sim;" } : Jvm.MethodName)) := ⟨List.mem_of_getElem? (i := 572) (by decide +kernel), by decide +kernel⟩
theorem gw_549 : ((Jvm.Cond.code ({ cls := "TallyWaxLaw", name := "build", desc := "(LTallyWax;[I)LTallyWaxLaw$Sim;" } : Jvm.MethodName) method_5_code (5 : Nat) (Option.some (Jvm.ClassFile.FieldType.object "TallyWaxLaw$Sim"))) : Cond) ∈ lw_tbl ∧ goodWord (Jvm.Cond.code ({ cls := "TallyWaxLaw", name := "build", desc := "(LTallyWax;[I)LTallyWaxLaw$Sim;" } : Jvm.MethodName) method_5_code (5 : Nat) (Option.some (Jvm.ClassFile.FieldType.object "TallyWaxLaw$Sim"))) = true := ⟨List.mem_of_getElem? (i := 573) (by decide +kernel), by decide +kernel⟩
theorem k_RL_97 : lkS RL 97 yL_build cL_build 5 (Option.some (FieldType.object "TallyWaxLaw$Sim")) 2 := ⟨tw_547, tw_548, tw_0, gw_549, ⟨⟨by decide +kernel, by decide +kernel⟩, by decide +kernel⟩⟩
theorem tw_550 : tw (Jvm.Cond.classLink "TallyWaxLaw" (10 : Nat) "TallyWaxLaw$Sim") := ⟨List.mem_of_getElem? (i := 574) (by decide +kernel), by decide +kernel⟩
theorem tw_551 : tw (Jvm.Cond.instantiable "TallyWaxLaw$Sim" (7 : Nat)) := ⟨List.mem_of_getElem? (i := 575) (by decide +kernel), by decide +kernel⟩
theorem k_RL_10 : lkC RL 10 4 7 [.null, .null, .null, .null, .int 0, .int 0, .int 0] := by
  refine ⟨RX4, TX4, rfl, tw_550.1, tw_551.1, tw_4.1, fun ty0 h j hj => ?_⟩
  have hj2 := h j hj
  rcases (show j = 0 ∨ j = 1 ∨ j = 2 ∨ j = 3 ∨ j = 4 ∨ j = 5 ∨ j = 6 by omega) with rfl | rfl | rfl | rfl | rfl | rfl | rfl <;>
    (rw [Option.some.inj (hj2.symm.trans (tyX4_ok _ hj))]; rfl)
theorem tw_552 : tw (Jvm.Cond.methodLinkNest "TallyWaxLaw" (87 : Nat) ({ cls := "TallyWaxLaw$Sim", name := "<init>", desc := "()V" } : Jvm.MethodName) "TallyWaxLaw") := ⟨List.mem_of_getElem? (i := 576) (by decide +kernel), by decide +kernel⟩
theorem tw_553 : tw (Jvm.Cond.instanceMethod ({ cls := "TallyWaxLaw$Sim", name := "<init>", desc := "()V" } : Jvm.MethodName)) := ⟨List.mem_of_getElem? (i := 577) (by decide +kernel), by decide +kernel⟩
theorem gw_554 : ((Jvm.Cond.code ({ cls := "TallyWaxLaw$Sim", name := "<init>", desc := "()V" } : Jvm.MethodName) prog_6_method_1_code (1 : Nat) (Option.none : Option Jvm.ClassFile.FieldType)) : Cond) ∈ lw_tbl ∧ goodWord (Jvm.Cond.code ({ cls := "TallyWaxLaw$Sim", name := "<init>", desc := "()V" } : Jvm.MethodName) prog_6_method_1_code (1 : Nat) (Option.none : Option Jvm.ClassFile.FieldType)) = true := ⟨List.mem_of_getElem? (i := 578) (by decide +kernel), by decide +kernel⟩
theorem k_RL_87 : lkI RL 87 yX4_init cX4_init 1 0 := ⟨Or.inr ⟨_, tw_552⟩, tw_553, tw_4, gw_554, ⟨⟨by decide +kernel, by decide +kernel⟩, by decide +kernel⟩, rfl⟩
theorem tw_555 : tw (Jvm.Cond.methodLink "TallyWaxLaw$Sim" (1 : Nat) ({ cls := "java/lang/Object", name := "<init>", desc := "()V" } : Jvm.MethodName)) := ⟨List.mem_of_getElem? (i := 579) (by decide +kernel), by decide +kernel⟩
theorem tw_556 : tw (Jvm.Cond.classLink "TallyWaxLaw$Sim" (22 : Nat) "[[[I") := ⟨List.mem_of_getElem? (i := 580) (by decide +kernel), by decide +kernel⟩
theorem tw_558 : tw (Jvm.Cond.fieldLink "TallyWaxLaw$Sim" (7 : Nat) "TallyWaxLaw$Sim" "there" "[Z") := ⟨List.mem_of_getElem? (i := 582) (by decide +kernel), by decide +kernel⟩
theorem k_RX4_7 : lkF RX4 7 4 0 := ⟨RX4, TX4, 7, rfl, by decide, Or.inl tw_558.1⟩
theorem tw_559 : tw (Jvm.Cond.fieldLink "TallyWaxLaw" (48 : Nat) "TallyWaxLaw$Sim" "there" "[Z") := ⟨List.mem_of_getElem? (i := 583) (by decide +kernel), by decide +kernel⟩
theorem k_RL_48 : lkF RL 48 4 0 := ⟨RX4, TX4, 7, rfl, by decide, Or.inl tw_559.1⟩
theorem tw_560 : tw (Jvm.Cond.fieldLink "TallyWaxLaw$Sim" (13 : Nat) "TallyWaxLaw$Sim" "heat" "[I") := ⟨List.mem_of_getElem? (i := 584) (by decide +kernel), by decide +kernel⟩
theorem k_RX4_13 : lkF RX4 13 4 1 := ⟨RX4, TX4, 7, rfl, by decide, Or.inl tw_560.1⟩
theorem tw_561 : tw (Jvm.Cond.fieldLink "TallyWaxLaw" (72 : Nat) "TallyWaxLaw$Sim" "heat" "[I") := ⟨List.mem_of_getElem? (i := 585) (by decide +kernel), by decide +kernel⟩
theorem k_RL_72 : lkF RL 72 4 1 := ⟨RX4, TX4, 7, rfl, by decide, Or.inl tw_561.1⟩
theorem tw_562 : tw (Jvm.Cond.fieldLink "TallyWaxLaw$Sim" (18 : Nat) "TallyWaxLaw$Sim" "tablets" "[[I") := ⟨List.mem_of_getElem? (i := 586) (by decide +kernel), by decide +kernel⟩
theorem k_RX4_18 : lkF RX4 18 4 2 := ⟨RX4, TX4, 7, rfl, by decide, Or.inl tw_562.1⟩
theorem tw_563 : tw (Jvm.Cond.fieldLink "TallyWaxLaw" (9 : Nat) "TallyWaxLaw$Sim" "tablets" "[[I") := ⟨List.mem_of_getElem? (i := 587) (by decide +kernel), by decide +kernel⟩
theorem k_RL_9 : lkF RL 9 4 2 := ⟨RX4, TX4, 7, rfl, by decide, Or.inl tw_563.1⟩
theorem tw_564 : tw (Jvm.Cond.fieldLink "TallyWaxLaw$Sim" (24 : Nat) "TallyWaxLaw$Sim" "lines" "[[[I") := ⟨List.mem_of_getElem? (i := 588) (by decide +kernel), by decide +kernel⟩
theorem k_RX4_24 : lkF RX4 24 4 3 := ⟨RX4, TX4, 7, rfl, by decide, Or.inl tw_564.1⟩
theorem tw_565 : tw (Jvm.Cond.fieldLink "TallyWaxLaw" (31 : Nat) "TallyWaxLaw$Sim" "lines" "[[[I") := ⟨List.mem_of_getElem? (i := 589) (by decide +kernel), by decide +kernel⟩
theorem k_RL_31 : lkF RL 31 4 3 := ⟨RX4, TX4, 7, rfl, by decide, Or.inl tw_565.1⟩
theorem tw_566 : tw (Jvm.Cond.fieldLink "TallyWaxLaw$Sim" (39 : Nat) "TallyWaxLaw$Sim" "year" "I") := ⟨List.mem_of_getElem? (i := 590) (by decide +kernel), by decide +kernel⟩
theorem k_RX4_39 : lkF RX4 39 4 4 := ⟨RX4, TX4, 7, rfl, by decide, Or.inl tw_566.1⟩
theorem tw_567 : tw (Jvm.Cond.fieldLink "TallyWaxLaw$Sim" (35 : Nat) "TallyWaxLaw$Sim" "melted" "I") := ⟨List.mem_of_getElem? (i := 591) (by decide +kernel), by decide +kernel⟩
theorem k_RX4_35 : lkF RX4 35 4 5 := ⟨RX4, TX4, 7, rfl, by decide, Or.inl tw_567.1⟩
theorem tw_568 : tw (Jvm.Cond.fieldLink "TallyWaxLaw" (52 : Nat) "TallyWaxLaw$Sim" "denied" "I") := ⟨List.mem_of_getElem? (i := 592) (by decide +kernel), by decide +kernel⟩
theorem k_RL_52 : lkF RL 52 4 6 := ⟨RX4, TX4, 7, rfl, by decide, Or.inl tw_568.1⟩
theorem tw_569 : tw (Jvm.Cond.fieldLink "TallyWaxLaw$Sim" (93 : Nat) "TallyWaxLaw$Sim" "denied" "I") := ⟨List.mem_of_getElem? (i := 593) (by decide +kernel), by decide +kernel⟩
theorem k_RX4_93 : lkF RX4 93 4 6 := ⟨RX4, TX4, 7, rfl, by decide, Or.inl tw_569.1⟩
theorem tw_585 : tw (Jvm.Cond.classLink "TallyWaxLaw" (104 : Nat) "[[I") := ⟨List.mem_of_getElem? (i := 609) (by decide +kernel), by decide +kernel⟩
theorem vxw_RX3_37 : (vx_atS RX3 37 "java/lang/IllegalArgumentException" ["java/lang/RuntimeException", "java/lang/Exception"]).all (fun w => decide (w ∈ lw_tbl) && (kw w && vx_ot w)) = true := by decide +kernel
theorem tw_8 : tw (Jvm.Cond.initialized "java/lang/IllegalArgumentException") := ⟨List.mem_of_getElem? (i := 32) (by decide +kernel), by decide +kernel⟩
theorem kt_RX3_35 : lkT RX3 33 35 37 "java/lang/IllegalArgumentException" "hardness is not 1 to 9" := by
  have h : ∀ w ∈ _, _ := List.all_eq_true.mp vxw_RX3_37
  refine ⟨tw_103, tw_8, sw_455, by decide +kernel, fun w hw => ?_, fun w hw => ?_⟩
  · have := h w hw
    simp only [Bool.and_eq_true, decide_eq_true_eq] at this
    exact ⟨this.1, this.2.1⟩
  · rcases List.mem_cons.mp hw with rfl | hw
    · rfl
    · rcases List.mem_cons.mp hw with rfl | hw
      · rfl
      · have := h w hw
        simp only [Bool.and_eq_true, decide_eq_true_eq] at this
        exact this.2.2
theorem vxw_RX3_48 : (vx_atS RX3 48 "java/lang/IllegalStateException" ["java/lang/RuntimeException", "java/lang/Exception"]).all (fun w => decide (w ∈ lw_tbl) && (kw w && vx_ot w)) = true := by decide +kernel
theorem tw_9 : tw (Jvm.Cond.initialized "java/lang/IllegalStateException") := ⟨List.mem_of_getElem? (i := 33) (by decide +kernel), by decide +kernel⟩
theorem kt_RX3_46 : lkT RX3 44 46 48 "java/lang/IllegalStateException" "there are 8 tablets" := by
  have h : ∀ w ∈ _, _ := List.all_eq_true.mp vxw_RX3_48
  refine ⟨tw_456, tw_9, sw_465, by decide +kernel, fun w hw => ?_, fun w hw => ?_⟩
  · have := h w hw
    simp only [Bool.and_eq_true, decide_eq_true_eq] at this
    exact ⟨this.1, this.2.1⟩
  · rcases List.mem_cons.mp hw with rfl | hw
    · rfl
    · rcases List.mem_cons.mp hw with rfl | hw
      · rfl
      · have := h w hw
        simp only [Bool.and_eq_true, decide_eq_true_eq] at this
        exact this.2.2
theorem kt_RX3_63 : lkT RX3 33 63 37 "java/lang/IllegalArgumentException" "two of the three are the same" := by
  have h : ∀ w ∈ _, _ := List.all_eq_true.mp vxw_RX3_37
  refine ⟨tw_103, tw_8, sw_542, by decide +kernel, fun w hw => ?_, fun w hw => ?_⟩
  · have := h w hw
    simp only [Bool.and_eq_true, decide_eq_true_eq] at this
    exact ⟨this.1, this.2.1⟩
  · rcases List.mem_cons.mp hw with rfl | hw
    · rfl
    · rcases List.mem_cons.mp hw with rfl | hw
      · rfl
      · have := h w hw
        simp only [Bool.and_eq_true, decide_eq_true_eq] at this
        exact this.2.2
theorem kt_RX3_65 : lkT RX3 33 65 37 "java/lang/IllegalArgumentException" "amount is not 1 to 999" := by
  have h : ∀ w ∈ _, _ := List.all_eq_true.mp vxw_RX3_37
  refine ⟨tw_103, tw_8, sw_543, by decide +kernel, fun w hw => ?_, fun w hw => ?_⟩
  · have := h w hw
    simp only [Bool.and_eq_true, decide_eq_true_eq] at this
    exact ⟨this.1, this.2.1⟩
  · rcases List.mem_cons.mp hw with rfl | hw
    · rfl
    · rcases List.mem_cons.mp hw with rfl | hw
      · rfl
      · have := h w hw
        simp only [Bool.and_eq_true, decide_eq_true_eq] at this
        exact this.2.2
theorem kt_RX3_72 : lkT RX3 44 72 48 "java/lang/IllegalStateException" "the tablet has 12 lines" := by
  have h : ∀ w ∈ _, _ := List.all_eq_true.mp vxw_RX3_48
  refine ⟨tw_456, tw_9, sw_544, by decide +kernel, fun w hw => ?_, fun w hw => ?_⟩
  · have := h w hw
    simp only [Bool.and_eq_true, decide_eq_true_eq] at this
    exact ⟨this.1, this.2.1⟩
  · rcases List.mem_cons.mp hw with rfl | hw
    · rfl
    · rcases List.mem_cons.mp hw with rfl | hw
      · rfl
      · have := h w hw
        simp only [Bool.and_eq_true, decide_eq_true_eq] at this
        exact this.2.2
theorem kt_RX3_78 : lkT RX3 44 78 48 "java/lang/IllegalStateException" "one of the three is gone" := by
  have h : ∀ w ∈ _, _ := List.all_eq_true.mp vxw_RX3_48
  refine ⟨tw_456, tw_9, sw_545, by decide +kernel, fun w hw => ?_, fun w hw => ?_⟩
  · have := h w hw
    simp only [Bool.and_eq_true, decide_eq_true_eq] at this
    exact ⟨this.1, this.2.1⟩
  · rcases List.mem_cons.mp hw with rfl | hw
    · rfl
    · rcases List.mem_cons.mp hw with rfl | hw
      · rfl
      · have := h w hw
        simp only [Bool.and_eq_true, decide_eq_true_eq] at this
        exact this.2.2
theorem kt_RX3_91 : lkT RX3 33 91 37 "java/lang/IllegalArgumentException" "amount is not 1 to the amount of the line" := by
  have h : ∀ w ∈ _, _ := List.all_eq_true.mp vxw_RX3_37
  refine ⟨tw_103, tw_8, sw_498, by decide +kernel, fun w hw => ?_, fun w hw => ?_⟩
  · have := h w hw
    simp only [Bool.and_eq_true, decide_eq_true_eq] at this
    exact ⟨this.1, this.2.1⟩
  · rcases List.mem_cons.mp hw with rfl | hw
    · rfl
    · rcases List.mem_cons.mp hw with rfl | hw
      · rfl
      · have := h w hw
        simp only [Bool.and_eq_true, decide_eq_true_eq] at this
        exact this.2.2
theorem kt_RX3_99 : lkT RX3 44 99 48 "java/lang/IllegalStateException" "the line is witnessed" := by
  have h : ∀ w ∈ _, _ := List.all_eq_true.mp vxw_RX3_48
  refine ⟨tw_456, tw_9, sw_508, by decide +kernel, fun w hw => ?_, fun w hw => ?_⟩
  · have := h w hw
    simp only [Bool.and_eq_true, decide_eq_true_eq] at this
    exact ⟨this.1, this.2.1⟩
  · rcases List.mem_cons.mp hw with rfl | hw
    · rfl
    · rcases List.mem_cons.mp hw with rfl | hw
      · rfl
      · have := h w hw
        simp only [Bool.and_eq_true, decide_eq_true_eq] at this
        exact this.2.2
theorem kt_RX3_104 : lkT RX3 44 104 48 "java/lang/IllegalStateException" "the debtor is gone" := by
  have h : ∀ w ∈ _, _ := List.all_eq_true.mp vxw_RX3_48
  refine ⟨tw_456, tw_9, sw_509, by decide +kernel, fun w hw => ?_, fun w hw => ?_⟩
  · have := h w hw
    simp only [Bool.and_eq_true, decide_eq_true_eq] at this
    exact ⟨this.1, this.2.1⟩
  · rcases List.mem_cons.mp hw with rfl | hw
    · rfl
    · rcases List.mem_cons.mp hw with rfl | hw
      · rfl
      · have := h w hw
        simp only [Bool.and_eq_true, decide_eq_true_eq] at this
        exact this.2.2
theorem kt_RX3_113 : lkT RX3 44 113 48 "java/lang/IllegalStateException" "the smoothing is refused" := by
  have h : ∀ w ∈ _, _ := List.all_eq_true.mp vxw_RX3_48
  refine ⟨tw_456, tw_9, sw_519, by decide +kernel, fun w hw => ?_, fun w hw => ?_⟩
  · have := h w hw
    simp only [Bool.and_eq_true, decide_eq_true_eq] at this
    exact ⟨this.1, this.2.1⟩
  · rcases List.mem_cons.mp hw with rfl | hw
    · rfl
    · rcases List.mem_cons.mp hw with rfl | hw
      · rfl
      · have := h w hw
        simp only [Bool.and_eq_true, decide_eq_true_eq] at this
        exact this.2.2
theorem vxw_RX3_130 : (vx_atS RX3 130 "java/lang/IndexOutOfBoundsException" ["java/lang/RuntimeException", "java/lang/Exception"]).all (fun w => decide (w ∈ lw_tbl) && (kw w && vx_ot w)) = true := by decide +kernel
theorem tw_12 : tw (Jvm.Cond.initialized "java/lang/IndexOutOfBoundsException") := ⟨List.mem_of_getElem? (i := 36) (by decide +kernel), by decide +kernel⟩
theorem kt_RX3_128 : lkT RX3 126 128 130 "java/lang/IndexOutOfBoundsException" "number is not 0 to 9" := by
  have h : ∀ w ∈ _, _ := List.all_eq_true.mp vxw_RX3_130
  refine ⟨tw_217, tw_12, sw_536, by decide +kernel, fun w hw => ?_, fun w hw => ?_⟩
  · have := h w hw
    simp only [Bool.and_eq_true, decide_eq_true_eq] at this
    exact ⟨this.1, this.2.1⟩
  · rcases List.mem_cons.mp hw with rfl | hw
    · rfl
    · rcases List.mem_cons.mp hw with rfl | hw
      · rfl
      · have := h w hw
        simp only [Bool.and_eq_true, decide_eq_true_eq] at this
        exact this.2.2
theorem kt_RX3_131 : lkT RX3 33 131 37 "java/lang/IllegalArgumentException" "heat is not 0 to 9" := by
  have h : ∀ w ∈ _, _ := List.all_eq_true.mp vxw_RX3_37
  refine ⟨tw_103, tw_8, sw_537, by decide +kernel, fun w hw => ?_, fun w hw => ?_⟩
  · have := h w hw
    simp only [Bool.and_eq_true, decide_eq_true_eq] at this
    exact ⟨this.1, this.2.1⟩
  · rcases List.mem_cons.mp hw with rfl | hw
    · rfl
    · rcases List.mem_cons.mp hw with rfl | hw
      · rfl
      · have := h w hw
        simp only [Bool.and_eq_true, decide_eq_true_eq] at this
        exact this.2.2
theorem kt_RX3_222 : lkT RX3 126 222 130 "java/lang/IndexOutOfBoundsException" "there is no such tablet" := by
  have h : ∀ w ∈ _, _ := List.all_eq_true.mp vxw_RX3_130
  refine ⟨tw_217, tw_12, sw_241, by decide +kernel, fun w hw => ?_, fun w hw => ?_⟩
  · have := h w hw
    simp only [Bool.and_eq_true, decide_eq_true_eq] at this
    exact ⟨this.1, this.2.1⟩
  · rcases List.mem_cons.mp hw with rfl | hw
    · rfl
    · rcases List.mem_cons.mp hw with rfl | hw
      · rfl
      · have := h w hw
        simp only [Bool.and_eq_true, decide_eq_true_eq] at this
        exact this.2.2
theorem kt_RX3_224 : lkT RX3 126 224 130 "java/lang/IndexOutOfBoundsException" "the tablet has no such line" := by
  have h : ∀ w ∈ _, _ := List.all_eq_true.mp vxw_RX3_130
  refine ⟨tw_217, tw_12, sw_254, by decide +kernel, fun w hw => ?_, fun w hw => ?_⟩
  · have := h w hw
    simp only [Bool.and_eq_true, decide_eq_true_eq] at this
    exact ⟨this.1, this.2.1⟩
  · rcases List.mem_cons.mp hw with rfl | hw
    · rfl
    · rcases List.mem_cons.mp hw with rfl | hw
      · rfl
      · have := h w hw
        simp only [Bool.and_eq_true, decide_eq_true_eq] at this
        exact this.2.2
theorem kt_RX3_229 : lkT RX3 126 229 130 "java/lang/IndexOutOfBoundsException" "a person is not 0 to 7" := by
  have h : ∀ w ∈ _, _ := List.all_eq_true.mp vxw_RX3_130
  refine ⟨tw_217, tw_12, sw_226, by decide +kernel, fun w hw => ?_, fun w hw => ?_⟩
  · have := h w hw
    simp only [Bool.and_eq_true, decide_eq_true_eq] at this
    exact ⟨this.1, this.2.1⟩
  · rcases List.mem_cons.mp hw with rfl | hw
    · rfl
    · rcases List.mem_cons.mp hw with rfl | hw
      · rfl
      · have := h w hw
        simp only [Bool.and_eq_true, decide_eq_true_eq] at this
        exact this.2.2
theorem kt_RX3_231 : lkT RX3 33 231 37 "java/lang/IllegalArgumentException" "years is not 1 to 40" := by
  have h : ∀ w ∈ _, _ := List.all_eq_true.mp vxw_RX3_37
  refine ⟨tw_103, tw_8, sw_144, by decide +kernel, fun w hw => ?_, fun w hw => ?_⟩
  · have := h w hw
    simp only [Bool.and_eq_true, decide_eq_true_eq] at this
    exact ⟨this.1, this.2.1⟩
  · rcases List.mem_cons.mp hw with rfl | hw
    · rfl
    · rcases List.mem_cons.mp hw with rfl | hw
      · rfl
      · have := h w hw
        simp only [Bool.and_eq_true, decide_eq_true_eq] at this
        exact this.2.2
end
section
/-! ===== more rows: indices and bounds as naturals, upward loops, words of the JDK's own methods ===== -/
theorem tw_oi1 : tw (.instanceMethod objectInit) := ⟨by decide +kernel, by decide +kernel⟩
theorem tw_oi2 : tw (.code objectInit ⟨#[0xb1]⟩ 1 none) := ⟨by decide +kernel, by decide +kernel⟩
theorem tw_mm1 : tw (.static Lib.Math.min.name) := ⟨by decide +kernel, by decide +kernel⟩
theorem tw_mm2 : tw (.initialized "java/lang/Math") := ⟨by decide +kernel, by decide +kernel⟩
theorem tw_mm3 : tw (.code Lib.Math.min.name Lib.Math.min.code 2 (some .int)) := ⟨by decide +kernel, by decide +kernel⟩
theorem tw_arr_0 : tw (.arrayClass .int) := ⟨by decide +kernel, by decide +kernel⟩
theorem tw_arr_1 : tw (.arrayClass .boolean) := ⟨by decide +kernel, by decide +kernel⟩
theorem tw_ovA : Cond.arrayOver (.array .int) ∈ lw_tbl := by decide +kernel
theorem tw_ovB : Cond.arrayOver (.array (.array .int)) ∈ lw_tbl := by decide +kernel
theorem tw_over : Cond.arrayOver (.object "TallyWax$Tablet") ∈ lw_tbl := by decide +kernel
/-- a counting loop: what holds at its end, and at i out of i + 1, holds everywhere -/
theorem lp_up {P : Nat → Prop} (n : Nat) (hs : ∀ i, i ≤ n → (i < n → P (i + 1)) → P i) : ∀ i, i ≤ n → P i := by
  intro i hi
  obtain ⟨k, hk⟩ : ∃ k, k = n - i := ⟨_, rfl⟩
  induction k generalizing i with
  | zero => exact hs i hi (fun q => by omega)
  | succ k ih => exact hs i hi (fun q => ih (i + 1) q (by omega))
section M2
variable {G : Gt} {F : Ft} {Q : State → Prop} {own : String} {cc : ByteArray} {nL : Nat} {ret : Option FieldType} {kc ks pc : Nat} {L : List (Option Value)} {st : List Value} {h : Hp}
theorem V.ialdN {a n j : Nat} {f : Nat → Int32} (hG : GOk G) (hF : Ok G F own cc nL ret) (hd : decode cc pc = .ok (.iaload, 1)) (hc : h a = some (.inl (0, n, .inl f))) (hj : j < n) (hn : n < 2 ^ 31) (kk : V G F Q kc ks (pc + 1) L (.int (f j) :: st) h) : V G F Q kc ks pc L (.int (nI j) :: .ref a :: st) h := by
  have e : (nI j).toNatClampNeg = j := nI_clamp (Nat.lt_trans hj hn)
  exact V.iald hG hF hd hc (vp_in_nI hj hn) (by rw [e]; exact kk)
theorem V.zaldN {a n j : Nat} {f : Nat → Int32} (hG : GOk G) (hF : Ok G F own cc nL ret) (hd : decode cc pc = .ok (.baload, 1)) (hc : h a = some (.inl (1, n, .inl f))) (hj : j < n) (hn : n < 2 ^ 31) (kk : V G F Q kc ks (pc + 1) L (.int (f j) :: st) h) : V G F Q kc ks pc L (.int (nI j) :: .ref a :: st) h := by
  have e : (nI j).toNatClampNeg = j := nI_clamp (Nat.lt_trans hj hn)
  exact V.zald hG hF hd hc (vp_in_nI hj hn) (by rw [e]; exact kk)
theorem V.aaldN {a n j t : Nat} {f : Nat → Option Nat} (hG : GOk G) (hF : Ok G F own cc nL ret) (hd : decode cc pc = .ok (.aaload, 1)) (hc : h a = some (.inl (t, n, .inr (.inr (.inr (.inr f)))))) (hj : j < n) (hn : n < 2 ^ 31) (kk : V G F Q kc ks (pc + 1) L (va_rf (f j) :: st) h) (ht : 2 ≤ t ∧ t < 5 := by decide) : V G F Q kc ks pc L (.int (nI j) :: .ref a :: st) h := by
  have e : (nI j).toNatClampNeg = j := nI_clamp (Nat.lt_trans hj hn)
  exact V.aald hG hF hd hc (vp_in_nI hj hn) (by rw [e]; exact kk) ht
theorem V.iastN {a n j : Nat} {f : Nat → Int32} {x : Int32} (hG : GOk G) (hF : Ok G F own cc nL ret) (hd : decode cc pc = .ok (.iastore, 1)) (hc : h a = some (.inl (0, n, .inl f))) (hj : j < n) (hn : n < 2 ^ 31) (kk : V G F Q kc ks (pc + 1) L st (hset h a (.inl (0, n, .inl (upd f j x))))) : V G F Q kc ks pc L (.int x :: .int (nI j) :: .ref a :: st) h := by
  have e : (nI j).toNatClampNeg = j := nI_clamp (Nat.lt_trans hj hn)
  exact V.iast hG hF hd hc (vp_in_nI hj hn) (by rw [e]; exact kk)
theorem V.zastN {a n j : Nat} {f : Nat → Int32} {x : Int32} (hG : GOk G) (hF : Ok G F own cc nL ret) (hd : decode cc pc = .ok (.bastore, 1)) (hc : h a = some (.inl (1, n, .inl f))) (hj : j < n) (hn : n < 2 ^ 31) (hx : narrow .boolean (.int x) = .int x) (kk : V G F Q kc ks (pc + 1) L st (hset h a (.inl (1, n, .inl (upd f j x))))) : V G F Q kc ks pc L (.int x :: .int (nI j) :: .ref a :: st) h := by
  have e : (nI j).toNatClampNeg = j := nI_clamp (Nat.lt_trans hj hn)
  exact V.zast hG hF hd hc (vp_in_nI hj hn) hx (by rw [e]; exact kk)
theorem V.icmpN_eq {i j : Nat} (hF : Ok G F own cc nL ret) {off : Int} {tgt : Nat} (hd : decode cc pc = .ok (.if_icmp .eq off, 3)) (ht : (pc : Int) + off = (tgt : Int)) (hi : i < 2 ^ 31) (hj : j < 2 ^ 31) (kt : i = j → V G F Q kc ks tgt L st h) (kf : ¬ i = j → V G F Q kc ks (pc + 3) L st h) : V G F Q kc ks pc L (.int (nI j) :: .int (nI i) :: st) h :=
  V.icmp_eq hF hd ht (fun q => kt ((nI_eq hi hj).mp q)) (fun q => kf (fun z => q ((nI_eq hi hj).mpr z)))
theorem V.icmpN_ne {i j : Nat} (hF : Ok G F own cc nL ret) {off : Int} {tgt : Nat} (hd : decode cc pc = .ok (.if_icmp .ne off, 3)) (ht : (pc : Int) + off = (tgt : Int)) (hi : i < 2 ^ 31) (hj : j < 2 ^ 31) (kt : ¬ i = j → V G F Q kc ks tgt L st h) (kf : i = j → V G F Q kc ks (pc + 3) L st h) : V G F Q kc ks pc L (.int (nI j) :: .int (nI i) :: st) h :=
  V.icmp_ne hF hd ht (fun q => kt (fun z => q ((nI_eq hi hj).mpr z))) (fun q => kf ((nI_eq hi hj).mp q))
theorem V.icmpN_lt {i j : Nat} (hF : Ok G F own cc nL ret) {off : Int} {tgt : Nat} (hd : decode cc pc = .ok (.if_icmp .lt off, 3)) (ht : (pc : Int) + off = (tgt : Int)) (hi : i < 2 ^ 31) (hj : j < 2 ^ 31) (kt : i < j → V G F Q kc ks tgt L st h) (kf : j ≤ i → V G F Q kc ks (pc + 3) L st h) : V G F Q kc ks pc L (.int (nI j) :: .int (nI i) :: st) h :=
  V.icmp_lt hF hd ht (fun q => kt ((nI_ltI hi hj).mp q)) (fun q => kf (Nat.not_lt.mp fun z => q ((nI_ltI hi hj).mpr z)))
theorem V.icmpN_ge {i j : Nat} (hF : Ok G F own cc nL ret) {off : Int} {tgt : Nat} (hd : decode cc pc = .ok (.if_icmp .ge off, 3)) (ht : (pc : Int) + off = (tgt : Int)) (hi : i < 2 ^ 31) (hj : j < 2 ^ 31) (kt : j ≤ i → V G F Q kc ks tgt L st h) (kf : i < j → V G F Q kc ks (pc + 3) L st h) : V G F Q kc ks pc L (.int (nI j) :: .int (nI i) :: st) h :=
  V.icmp_ge hF hd ht (fun q => kt ((nI_leI hj hi).mp q)) (fun q => kf (Nat.not_le.mp fun z => q ((nI_leI hj hi).mpr z)))
theorem V.icmpN_gt {i j : Nat} (hF : Ok G F own cc nL ret) {off : Int} {tgt : Nat} (hd : decode cc pc = .ok (.if_icmp .gt off, 3)) (ht : (pc : Int) + off = (tgt : Int)) (hi : i < 2 ^ 31) (hj : j < 2 ^ 31) (kt : j < i → V G F Q kc ks tgt L st h) (kf : i ≤ j → V G F Q kc ks (pc + 3) L st h) : V G F Q kc ks pc L (.int (nI j) :: .int (nI i) :: st) h :=
  V.icmp_gt hF hd ht (fun q => kt ((nI_ltI hj hi).mp q)) (fun q => kf (Nat.not_lt.mp fun z => q ((nI_ltI hj hi).mpr z)))
theorem V.icmpN_le {i j : Nat} (hF : Ok G F own cc nL ret) {off : Int} {tgt : Nat} (hd : decode cc pc = .ok (.if_icmp .le off, 3)) (ht : (pc : Int) + off = (tgt : Int)) (hi : i < 2 ^ 31) (hj : j < 2 ^ 31) (kt : i ≤ j → V G F Q kc ks tgt L st h) (kf : j < i → V G F Q kc ks (pc + 3) L st h) : V G F Q kc ks pc L (.int (nI j) :: .int (nI i) :: st) h :=
  V.icmp_le hF hd ht (fun q => kt ((nI_leI hi hj).mp q)) (fun q => kf (Nat.not_le.mp fun z => q ((nI_leI hi hj).mpr z)))
theorem V.hp {h' : Hp} (e : h' = h) (k : V G F Q kc ks pc L st h') : V G F Q kc ks pc L st h := e ▸ k
end M2
theorem ne_new {h : Hp} {a q : Nat} {c : va_E} (h1 : h a = some c) (h2 : h q = none) : a ≠ q := by
  rintro rfl
  rw [h1] at h2
  cases h2
end
section
/-! ===== arrays of arrays: a grid made in one go, a row laid into an array of rows, an array of rows made ===== -/
section G1
variable {p : Program} {l : Launch} {e : Env} {R : Room} {s : State} {m : MethodId} {args : Array Value} {below : List Frame} {meth : Method} {c : Code}
/-- the outer array when i of its n rows stand -/
def gr_o (cA : ClassId) (n a i : Nat) : Cell := arrV cA n (fun j => if j < i then .ref (a + 1 + j) else .null)
theorem gr_o0 (cA : ClassId) (n a : Nat) : gr_o cA n a 0 = arrV cA n (fun _ => .null) := by
  unfold gr_o
  exact congrArg (arrV cA n) (funext fun j => if_neg (Nat.not_lt_zero j))
theorem gr_oS (cA : ClassId) (n a i : Nat) : (gr_o cA n a i).setSlot i (.ref (a + 1 + i)) = gr_o cA n a (i + 1) := by
  unfold gr_o
  rw [arrV_store]
  refine congrArg (arrV cA n) (funext fun j => ?_)
  unfold updV
  by_cases q : j = i
  · subst q
    rw [if_pos rfl, if_pos (Nat.lt_succ_self j)]
  · rw [if_neg q]
    show (if j < i then _ else _) = _
    by_cases z : j < i
    · rw [if_pos z, if_pos (Nat.lt_succ_of_lt z)]
    · rw [if_neg z, if_neg (by omega)]
def gr_s (T : State) (cA cI : ClassId) (n k : Nat) (dv : Value) : Nat → State
  | 0 => T.pushCell (gr_o cA n T.heap.size 0)
  | i + 1 => ((gr_s T cA cI n k dv i).pushCell (arrV cI k (fun _ => dv))).setCell T.heap.size ((gr_o cA n T.heap.size i).setSlot i (.ref (T.heap.size + 1 + i)))
theorem gr_f (T : State) (cA cI : ClassId) (n k : Nat) (dv : Value) : ∀ i, (gr_s T cA cI n k dv i).heap.size = T.heap.size + 1 + i ∧ (gr_s T cA cI n k dv i).heap[T.heap.size]? = some (gr_o cA n T.heap.size i) ∧ (gr_s T cA cI n k dv i).vm = T.vm ∧ (gr_s T cA cI n k dv i).slotsUsed = T.slotsUsed + n + i * k ∧ (∀ a : Nat, a < T.heap.size → (gr_s T cA cI n k dv i).heap[a]? = T.heap[a]?) ∧ ∀ j, j < i → (gr_s T cA cI n k dv i).heap[T.heap.size + 1 + j]? = some (arrV cI k (fun _ => dv))
  | 0 => by
    refine ⟨by simp [gr_s], by simp [gr_s], rfl, ?_, fun a ha => State.heap_pushCell_of_lt _ _ ha, fun j hj => absurd hj (Nat.not_lt_zero j)⟩
    simp [gr_s, gr_o, arrV_size]
  | i + 1 => by
    obtain ⟨f1, f2, f3, f4, f5, f6⟩ := gr_f T cA cI n k dv i
    have hlt : T.heap.size < (gr_s T cA cI n k dv i).heap.size := by omega
    have hb : ((gr_s T cA cI n k dv i).pushCell (arrV cI k (fun _ => dv))).heap[T.heap.size]? = some (gr_o cA n T.heap.size i) := by rw [State.heap_pushCell_of_lt (h := hlt)]; exact f2
    refine ⟨?_, ?_, by simp [gr_s, f3], ?_, fun a ha => ?_, fun j hj => ?_⟩
    · simp [gr_s, State.setCell, f1]; omega
    · rw [← gr_oS]
      exact State.heap_setCell_self hb
    · simp [gr_s, f4, arrV_size, Nat.succ_mul]; omega
    · show (((gr_s T cA cI n k dv i).pushCell (arrV cI k (fun _ => dv))).setCell T.heap.size _).heap[a]? = _
      rw [State.heap_setCell_other (Nat.ne_of_gt ha), State.heap_pushCell_of_lt (h := Nat.lt_trans ha hlt)]
      exact f5 a ha
    · show (((gr_s T cA cI n k dv i).pushCell (arrV cI k (fun _ => dv))).setCell T.heap.size _).heap[T.heap.size + 1 + j]? = _
      rw [State.heap_setCell_other (show T.heap.size ≠ T.heap.size + 1 + j by omega)]
      rcases Nat.lt_or_ge j i with q | q
      · rw [State.heap_pushCell_of_lt (h := show T.heap.size + 1 + j < _ by rw [f1]; omega)]
        exact f6 j q
      · have e : T.heap.size + 1 + j = (gr_s T cA cI n k dv i).heap.size := by omega
        rw [e]
        exact State.heap_pushCell_size _ _
theorem gr_t (T : State) (f : JFrame) (cA cI : ClassId) (n k : Nat) (dv : Value) : ∀ i, gr_s (T.setTop f) cA cI n k dv i = (gr_s T cA cI n k dv i).setTop f
  | 0 => rfl
  | i + 1 => by simp only [gr_s, gr_t T f cA cI n k dv i, State.heap_setTop, State.pushCell_setTop, State.setCell_setTop]
theorem gr_X {T : State} {locs : List Loc} {cells slots : Nat} (X : Stand p l e R s m args below meth c T locs cells slots) (cA cI : ClassId) (n k : Nat) (dv : Value) : ∀ i, Stand p l e R s m args below meth c (gr_s T cA cI n k dv i) (locs ++ (List.range i).map fun j => ⟨T.heap.size, j⟩) (cells + 1 + i) (slots + n + i * k)
  | 0 => by
    have h := X.pushed (gr_o cA n T.heap.size 0)
    have e : (gr_o cA n T.heap.size 0).slots.size = n := arrV_size _ _ _
    rw [e] at h
    simpa [gr_s] using h
  | i + 1 => by
    have Xi := gr_X X cA cI n k dv i
    obtain ⟨f1, f2, f3, f4, f5, f6⟩ := gr_f T cA cI n k dv i
    have hlt : T.heap.size < (gr_s T cA cI n k dv i).heap.size := by omega
    have hb : ((gr_s T cA cI n k dv i).pushCell (arrV cI k (fun _ => dv))).heap[T.heap.size]? = some (gr_o cA n T.heap.size i) := by rw [State.heap_pushCell_of_lt (h := hlt)]; exact f2
    have h := (Xi.pushed (arrV cI k (fun _ => dv))).stored hb i (.ref (T.heap.size + 1 + i))
    rw [arrV_size] at h
    have e2 : (locs ++ (List.range (i + 1)).map fun j => (⟨T.heap.size, j⟩ : Loc)) = (locs ++ (List.range i).map fun j => (⟨T.heap.size, j⟩ : Loc)) ++ [⟨T.heap.size, i⟩] := by simp [List.range_succ, List.append_assoc]
    have e3 : slots + n + (i + 1) * k = slots + n + i * k + k := by rw [Nat.succ_mul]; omega
    rw [e2, e3]
    exact h
end G1
section G2
variable {E : CtlPost} {e : Env} {d : Bool} {acts : List Action} {s : State}
theorem gm_new {cA comp : ClassId} {kA : Class} {ty : FieldType} {len : Nat} {init : Value} (hk : s.vm.classes[cA]? = some kA) (hkind : kA.kind = .array comp ty) (hlimit : ¬ len > e.platform.arrayLengthLimit) (hheap : ¬ len * componentBytes ty > e.platform.maxHeapBytes) (hfit : fits ty init = true) (hdef : init.isDefault = true) {Q : Addr → Pre}
    (h1 : s.heap.size < e.platform.maxCells) (h2 : s.slotsUsed + len ≤ e.platform.maxSlots) (hq : Q s.heap.size d acts (s.pushCell (arrV cA len (fun _ => init)))) : wp (Jvm.newArray cA len init) Q E e d acts s := by
  rw [← arrV_new] at hq
  have hall : ((Array.replicate len init).all (·.isDefault)) = true := by
    rw [Array.all_replicate]; split <;> simp [hdef]
  have hda : allocActs (Array.replicate len init) s.heap.size acts = acts := by
    unfold allocActs; rw [if_pos hall]
  have hfits : ∀ i v, (Array.replicate len init)[i]? = some v → s.fitsSlot cA .none i v = true := by
    intro i v hv
    simp only [Array.getElem?_replicate] at hv
    split at hv
    · cases hv; simp [State.fitsSlot, State.slotType?, hk, hkind, hfit]
    · cases hv
  simp only [Jvm.newArray, Jvm.arrayFits, wp_bind', W.ask, W.ite, hlimit, if_false, wp_pure', W.theClass, hk, hkind, hheap, W.alloc, W.stop, Option.some.injEq, exists_eq_left', Array.size_replicate, hda]
  rw [if_neg (by omega)]
  exact ⟨h1, h2, hfits, hq⟩
theorem gm_1 {cI cc : ClassId} {kI : Class} {ty : FieldType} {k : Int32} (hk : s.vm.classes[cI]? = some kI) (hkind : kI.kind = .array cc ty) (h0 : ¬ k < 0) (hlimit : ¬ k.toNatClampNeg > e.platform.arrayLengthLimit) (hheap : ¬ k.toNatClampNeg * componentBytes ty > e.platform.maxHeapBytes) (hfit : fits ty (defaultValue ty) = true) (hdef : (defaultValue ty).isDefault = true)
    (h1 : s.heap.size < e.platform.maxCells) (h2 : s.slotsUsed + k.toNatClampNeg ≤ e.platform.maxSlots) {Q : Addr → Pre} (hq : Q s.heap.size d acts (s.pushCell (arrV cI k.toNatClampNeg (fun _ => defaultValue ty)))) : wp (Op.multianewarray.make cI [k]) Q E e d acts s := by
  rw [Op.multianewarray.make]
  simp only [wp_bind', W.ite, h0, if_false, wp_pure', W.theClass, hk, hkind, Option.some.injEq, exists_eq_left']
  exact gm_new hk hkind hlimit hheap hfit hdef h1 h2 hq
theorem gm_rf {t : FieldType} (h : t.isReference = true) (v : Value) (hv : v = .null ∨ ∃ a, v = .ref a) : fits t v = true := by
  rcases hv with rfl | ⟨a, rfl⟩ <;> cases t <;> simp [FieldType.isReference] at h <;> rfl
theorem gm_2 {cA cI cc : ClassId} {kA kI : Class} {t0 ty : FieldType} {n k : Int32} (hk : s.vm.classes[cA]? = some kA) (hkind : kA.kind = .array cI t0) (href : t0.isReference = true) (hkI : s.vm.classes[cI]? = some kI) (hkindI : kI.kind = .array cc ty) (hn : ¬ n < 0) (h0 : ¬ k < 0)
    (hl1 : ¬ n.toNatClampNeg > e.platform.arrayLengthLimit) (hh1 : ¬ n.toNatClampNeg * componentBytes t0 > e.platform.maxHeapBytes) (hl2 : ¬ k.toNatClampNeg > e.platform.arrayLengthLimit) (hh2 : ¬ k.toNatClampNeg * componentBytes ty > e.platform.maxHeapBytes) (hfit : fits ty (defaultValue ty) = true) (hdef : (defaultValue ty).isDefault = true)
    (hc : s.heap.size + 1 + n.toNatClampNeg ≤ e.platform.maxCells) (hs : s.slotsUsed + n.toNatClampNeg + n.toNatClampNeg * k.toNatClampNeg ≤ e.platform.maxSlots) {Q : Addr → Pre} (hq : ∀ d' acts', Q s.heap.size d' acts' (gr_s s cA cI n.toNatClampNeg k.toNatClampNeg (defaultValue ty) n.toNatClampNeg)) : wp (Op.multianewarray.make cA [n, k]) Q E e d acts s := by
  have hfind : ([k].find? (· < 0)) = none := by simp [h0]
  rw [Op.multianewarray.make]
  simp only [wp_bind', W.ite, hn, if_false, wp_pure', W.theClass, hk, hkind, Option.some.injEq, exists_eq_left']
  refine gm_new hk hkind hl1 hh1 (gm_rf href _ (Or.inl rfl)) rfl (by omega) (by have := Nat.zero_le (n.toNatClampNeg * k.toNatClampNeg); omega) ?_
  simp only [hfind]
  rw [ite_self, wp_bind', Std.Legacy.Range.forIn_eq_forIn_range']
  have hsz : ([:n.toNatClampNeg] : Std.Legacy.Range).size = n.toNatClampNeg := by simp [Std.Legacy.Range.size]
  rw [hsz, ← gr_o0 cA n.toNatClampNeg s.heap.size]
  show wp (forIn (List.range' 0 n.toNatClampNeg 1) PUnit.unit _) _ E e d acts _
  refine wp_forIn_inv (fun rest s' => ∃ i, i ≤ n.toNatClampNeg ∧ rest = List.range' i (n.toNatClampNeg - i) ∧ s' = gr_s s cA cI n.toNatClampNeg k.toNatClampNeg (defaultValue ty) i) _ _ ⟨0, Nat.zero_le _, rfl, rfl⟩ ?_ ?_
  · rintro x rest s' d' acts' Q' ⟨i, hi, hl, rfl⟩ hnext
    have hlt : i < n.toNatClampNeg := by
      rcases Nat.lt_or_ge i n.toNatClampNeg with h | h
      · exact h
      · rw [show n.toNatClampNeg - i = 0 from by omega] at hl; simp at hl
    obtain ⟨e1, hrest⟩ : x = i ∧ rest = List.range' (i + 1) (n.toNatClampNeg - (i + 1)) := by
      rw [show n.toNatClampNeg - i = (n.toNatClampNeg - (i + 1)) + 1 from by omega, List.range'_succ] at hl
      exact ⟨(List.cons.inj hl).1, (List.cons.inj hl).2⟩
    subst e1
    obtain ⟨f1, f2, f3, f4, f5, f6⟩ := gr_f s cA cI n.toNatClampNeg k.toNatClampNeg (defaultValue ty) x
    have hmul : x * k.toNatClampNeg + k.toNatClampNeg ≤ n.toNatClampNeg * k.toNatClampNeg := by
      have := Nat.mul_le_mul_right k.toNatClampNeg (show x + 1 ≤ n.toNatClampNeg from hlt)
      rw [Nat.succ_mul] at this; exact this
    simp only [wp_bind']
    refine gm_1 (by rw [f3]; exact hkI) hkindI h0 hl2 hh2 hfit hdef (by rw [f1]; omega) (by rw [f4]; omega) ?_
    have hlt0 : s.heap.size < (gr_s s cA cI n.toNatClampNeg k.toNatClampNeg (defaultValue ty) x).heap.size := by rw [f1]; omega
    simp only [wp_bind', W.writeLoc, wp_pure']
    refine ⟨gr_o cA n.toNatClampNeg s.heap.size x, by rw [State.heap_pushCell_of_lt (h := hlt0)]; exact f2, (by simp [gr_o, arrV]), (by show x < (gr_o _ _ _ _).slots.size; rw [gr_o, arrV_size]; exact hlt), ?_, hnext _ _ _ ⟨x + 1, hlt, hrest, ?_⟩⟩
    · simp [gr_o, arrV, State.fitsSlot, State.slotType?, f3, hk, hkind, gm_rf href _ (Or.inr ⟨_, rfl⟩)]
    · rw [f1]; rfl
  · rintro s' d' acts' ⟨i, hi, hl, rfl⟩
    have hiN : i = n.toNatClampNeg := by
      rcases Nat.lt_or_ge i n.toNatClampNeg with h | h
      · rw [show n.toNatClampNeg - i = (n.toNatClampNeg - (i + 1)) + 1 from by omega, List.range'_succ] at hl; cases hl
      · omega
    rw [hiN]
    simp only [wp_pure']
    exact hq _ _
end G2
section G3
variable {p : Program} {l : Launch} {e : Env} {R : Room} {s : State} {m : MethodId} {args : Array Value} {below : List Frame} {meth : Method} {c : Code} {H : Heap} {locs : List Loc} {cells slots : Nat} {Q : State → Prop}
/-- a grid: an array of n arrays of k -/
theorem gm_W {cc : ByteArray} (hexec : p.tables.exec = Jvm.exec) (hb : c.code = cc) {own : String} {index : Nat} {ty : FieldType} {cA cI cc0 : ClassId} {kA kI : Class} (hown : s.vm.findClass own = some m.cls) (hclink : (Cond.classLink own index ("[" ++ (FieldType.array ty).toString)).before args s = true)
    (hnA : s.vm.findClass ("[" ++ (FieldType.array ty).toString) = some cA) (hkA : s.vm.classes[cA]? = some kA) (hkindA : kA.kind = .array cI (.array ty)) (hkI : s.vm.classes[cI]? = some kI) (hkindI : kI.kind = .array cc0 ty)
    {g : JFrame} (hg : g.method = m) (hdg : decode cc g.pc = .ok (.multianewarray index 2, 4)) {n k : Int32} {rest : List Value} (hstack : g.stack = .int k :: .int n :: rest) (hn : ¬ n < 0) (hk : ¬ k < 0) (hb1 : n.toNatClampNeg * 4 ≤ 536870912) (hb2 : k.toNatClampNeg * componentBytes ty ≤ 536870912) (hb3 : k.toNatClampNeg ≤ 536870912)
    (hfit : fits ty (defaultValue ty) = true) (hdef : (defaultValue ty).isDefault = true) (hcells : cells + (1 + n.toNatClampNeg) ≤ R.cells) (hslots : slots + (n.toNatClampNeg + n.toNatClampNeg * k.toNatClampNeg) ≤ R.slots)
    (kk : ∀ H1 : Heap, H1.size = H.size + 1 + n.toNatClampNeg → H1[H.size]? = some (gr_o cA n.toNatClampNeg H.size n.toNatClampNeg) → (∀ a : Nat, a < H.size → H1[a]? = H[a]?) → (∀ j, j < n.toNatClampNeg → H1[H.size + 1 + j]? = some (arrV cI k.toNatClampNeg (fun _ => defaultValue ty))) →
      W p l e R s m args below meth c H1 (locs ++ (List.range n.toNatClampNeg).map fun j => ⟨H.size, j⟩) (cells + 1 + n.toNatClampNeg) (slots + n.toNatClampNeg + n.toNatClampNeg * k.toNatClampNeg) Q { g with pc := g.pc + 4, stack := .ref H.size :: rest }) : W p l e R s m args below meth c H locs cells slots Q g := by
  intro T hT X
  subst hT; subst hb; subst hg
  have hpl : e.platform.magicAccessors = ({} : Platform).magicAccessors := by rw [X.admits.platform]
  obtain ⟨c0, hfc0, hcl⟩ := Cond.classLink_spec hown hclink e.platform hpl
  cases hnA.symm.trans hfc0
  obtain ⟨hg₁, hwarm₁, hready₁⟩ := State.classEntry (e := e) X.warmed hcl
  generalize T.vm.noted g.method.cls index (.cls cA) = vm₁ at hg₁ hwarm₁ hready₁
  have hal : s.vm.Alike vm₁ := hwarm₁.alike
  obtain ⟨kA₁, hkA₁, heA⟩ := hal.2.2 _ _ hkA
  obtain ⟨kI₁, hkI₁, heI⟩ := hal.2.2 _ _ hkI
  have hkindA₁ : kA₁.kind = .array cI (.array ty) := by rw [heA]; exact hkindA
  have hkindI₁ : kI₁.kind = .array cc0 ty := by rw [heI]; exact hkindI
  have X₁ := X.noted hwarm₁
  obtain ⟨hr1, hr2⟩ := X.roomAbove hcells hslots
  obtain ⟨f1, f2, f3, f4, f5, f6⟩ := gr_f (T.setVm vm₁) cA cI n.toNatClampNeg k.toNatClampNeg (defaultValue ty) n.toNatClampNeg
  have XF := gr_X X₁ cA cI n.toNatClampNeg k.toNatClampNeg (defaultValue ty) n.toNatClampNeg
  obtain ⟨t', a1, b1⟩ := kk _ f1 f2 f5 f6 (gr_s (T.setVm vm₁) cA cI n.toNatClampNeg k.toNatClampNeg (defaultValue ty) n.toNatClampNeg) rfl XF
  refine ⟨t', ?_, b1⟩
  have hl1 : ¬ n.toNatClampNeg > e.platform.arrayLengthLimit := by rw [Launch.admits_arrayLengthLimit X.admits]; omega
  have hh1 : ¬ n.toNatClampNeg * componentBytes (.array ty) > e.platform.maxHeapBytes := by
    rw [Launch.admits_maxHeapBytes X.admits]; show ¬ n.toNatClampNeg * 4 > 536870912; omega
  have hl2 : ¬ k.toNatClampNeg > e.platform.arrayLengthLimit := by rw [Launch.admits_arrayLengthLimit X.admits]; omega
  have hh2 : ¬ k.toNatClampNeg * componentBytes ty > e.platform.maxHeapBytes := by rw [Launch.admits_maxHeapBytes X.admits]; omega
  jvm_step X.here [hexec, hdg]
  simp only [Op.multianewarray.sem, wp_bind', W.resolveClassAt_links (State.method?_setTop g X.here.top) hg₁]
  rw [W.popN, if_neg (by decide)]
  refine ⟨g, State.topJava?_setTop' (s := T.setVm vm₁) g X.here.top, [.int n, .int k], rest, rfl, hstack, ?_⟩
  simp only [List.mapM_cons, List.mapM_nil, wp_bind', wp_pure']
  refine gm_2 (kA := kA₁) (kI := kI₁) (cI := cI) (cc := cc0) (t0 := .array ty) (ty := ty) hkA₁ hkindA₁ rfl hkI₁ hkindI₁ hn hk hl1 hh1 hl2 hh2 hfit hdef (by show T.heap.size + 1 + _ ≤ _; omega) (by show T.slotsUsed + _ + _ ≤ _; omega) (fun d' acts' => ?_)
  have eS : ((T.setTop g).setVm vm₁).setTop { g with stack := rest } = (T.setVm vm₁).setTop { g with stack := rest } := by
    show ((T.setVm vm₁).setTop g).setTop _ = _
    rw [State.setTop_setTop]
  rw [eS, gr_t]
  simp only [wp_bind', W.mark, W.pushRef, State.topJava?_setTop' _ XF.here.top, Option.some.injEq, exists_eq_left', State.setTop_setTop, State.heap_setTop]
  intro acts
  simp [jvm, XF.here.top]
  exact a1
end G3
section G4
variable {G : Gt} {F : Ft} {Q : State → Prop} {own : String} {cc : ByteArray} {nL : Nat} {ret : Option FieldType} {kc ks pc : Nat} {L : List (Option Value)} {st : List Value} {h : Hp}
/-- the pairs (array of arrays, array): the class of the first has the second's as its component -/
theorem gm_k (hG : GOk G) (hF : Ok G F own cc nL ret) {t t' : Nat} (ht : (t = 2 ∧ t' = 0) ∨ (t = 4 ∧ t' = 2)) : gTy t = .array (gTy t') ∧ ∃ (kA kI : Class) (cc0 : ClassId), (fS F).vm.findClass ("[" ++ (gTy t).toString) = some (gA G t) ∧ (fS F).vm.classes[gA G t]? = some kA ∧ kA.kind = .array (gA G t') (gTy t) ∧ (fS F).vm.classes[gA G t']? = some kI ∧ kI.kind = .array cc0 (gTy t') := by
  have key : ∀ (ty : FieldType), gTy t = .array ty → gTy t' = ty → t < 5 → t' < 5 → va_RA (fS F) (gA G t') ty → va_RA (fS F) (gA G t) (.array ty) → (∀ cA, va_RA (fS F) cA ty → (fS F).vm.findClass ("[" ++ ty.toString) = some cA) → Cond.arrayOver (.array ty) ∈ lw_tbl → gTy t = .array (gTy t') ∧ ∃ (kA kI : Class) (cc0 : ClassId), (fS F).vm.findClass ("[" ++ (gTy t).toString) = some (gA G t) ∧ (fS F).vm.classes[gA G t]? = some kA ∧ kA.kind = .array (gA G t') (gTy t) ∧ (fS F).vm.classes[gA G t']? = some kI ∧ kI.kind = .array cc0 (gTy t') := by
    intro ty e1 e2 l1 l2 r1 r2 hn hw
    have hov : (Cond.arrayOver (.array ty)).before (fA F) (fS F) = true := over_moved (State.WarmedH.alike hF.W) (hG.2.1 _ hw)
    obtain ⟨comp, c, k, h1, h2, h3, h4, h5⟩ := arrayOverA_spec hov
    have q1 : comp = gA G t' := Option.some.inj (h1.symm.trans (hn _ r1))
    have q2 : c = gA G t := Option.some.inj (h5.symm.trans r2)
    subst q1; subst q2
    obtain ⟨-, kI, g1, cc0, g2⟩ := (gAr hG hF (t := t') l2).1 0 (fun _ => .null)
    refine ⟨by rw [e1, e2], k, kI, cc0, by rw [e1]; exact h5, h3, by rw [e1]; exact h4, g1, by rw [e2] at g2 ⊢; exact g2⟩
  rcases ht with ⟨rfl, rfl⟩ | ⟨rfl, rfl⟩
  · exact key .int rfl rfl (by decide) (by decide) (gAr hG hF (t := 0) (by decide)).2 (gAr hG hF (t := 2) (by decide)).2 (fun _ h => h) tw_ovA
  · exact key (.array .int) rfl rfl (by decide) (by decide) (gAr hG hF (t := 2) (by decide)).2 (gAr hG hF (t := 4) (by decide)).2 (fun _ h => h) tw_ovB
/-- a grid of n rows of k; a0: a row as it is made -/
theorem V.grid (hG : GOk G) (hF : Ok G F own cc nL ret) {ix t t' n k : Nat} {a0 : vp_A} (ht : (t = 2 ∧ t' = 0) ∨ (t = 4 ∧ t' = 2)) (w1 : Cond.classLink own ix ("[" ++ (gTy t).toString) ∈ lw_tbl) (hd : decode cc pc = .ok (.multianewarray ix 2, 4)) (hn : n ≤ 1000) (hk : k ≤ 1000) (ha : ∀ cA : ClassId, vp_cell cA a0 = arrV cA k (fun _ => defaultValue (gTy t')))
    (kk : ∀ (q : Nat) (h' : Hp), h q = none → (∀ j, j < n → h (q + 1 + j) = none) → h' q = some (.inl (t, n, .inr (.inr (.inr (.inr (fun j => if j < n then some (q + 1 + j) else none)))))) → (∀ j, j < n → h' (q + 1 + j) = some (.inl (t', a0))) → (∀ x c, h x = some c → h' x = some c) → V G F Q kc ks (pc + 4) L (.ref q :: st) h') :
    V G F Q (kc + (1 + n)) (ks + (n + n * k)) pc L (.int (nI k) :: .int (nI n) :: st) h := by
  intro H locs ls cells slots hR hS hL hz h1 h2
  obtain ⟨hx, hb, hml, hr, hown, hlk, hW⟩ := id hF
  obtain ⟨eT, kA, kI, cc0, g1, g2, g3, g4, g5⟩ := gm_k hG hF ht
  have hge : gN G ≤ H.size := Nat.le_trans hW.2.1 hS.1
  have cn : (nI n).toNatClampNeg = n := nI_clamp (by omega)
  have ck : (nI k).toNatClampNeg = k := nI_clamp (by omega)
  have hty : gTy t' = .int ∨ gTy t' = .array .int := by
    rcases ht with ⟨rfl, rfl⟩ | ⟨rfl, rfl⟩
    · exact Or.inl rfl
    · exact Or.inr rfl
  have b4 : componentBytes (gTy t') = 4 := by
    rcases hty with e | e <;> rw [e] <;> rfl
  have hmul : n * k ≤ 1000 * 1000 := Nat.mul_le_mul hn hk
  have hw1 : (Cond.classLink own ix ("[" ++ (FieldType.array (gTy t')).toString)).before (fA F) (fS F) = true := by
    rw [← eT]; exact hF.wd hG w1 rfl
  rw [eT] at g1 g3
  refine gm_W hx hb hown hw1 g1 g2 g3 g4 g5 rfl hd rfl (nI_pos (by omega)) (nI_pos (by omega)) (by rw [cn]; omega) (by rw [ck, b4]; omega) (by rw [ck]; omega) (by rcases hty with e | e <;> rw [e] <;> rfl) (by rcases hty with e | e <;> rw [e] <;> rfl) (by rw [cn]; omega) (by rw [cn, ck]; omega) fun H1 z1 e1 o1 i1 => ?_
  rw [cn, ck] at *
  have fr : ∀ x : Nat, H.size ≤ x → h x = none := fun x hx => by
    cases hc : h x with
    | none => rfl
    | some c => exact absurd (hR _ c hc).2.lt (Nat.not_lt.mpr hx)
  obtain ⟨h', eh⟩ : ∃ z : Hp, z = fun x => if x = H.size then some (.inl (t, n, .inr (.inr (.inr (.inr (fun j => if j < n then some (H.size + 1 + j) else none)))))) else if H.size < x ∧ x < H.size + 1 + n then some (.inl (t', a0)) else h x := ⟨_, rfl⟩
  have p1 : h' H.size = some (.inl (t, n, .inr (.inr (.inr (.inr (fun j => if j < n then some (H.size + 1 + j) else none)))))) := by rw [eh]; exact if_pos rfl
  have p2 : ∀ j, j < n → h' (H.size + 1 + j) = some (.inl (t', a0)) := fun j hj => by
    rw [eh]
    show (if _ then _ else _) = _
    rw [if_neg (by omega), if_pos (by omega)]
  have p3 : ∀ x c, h x = some c → h' x = some c := fun x c hc => by
    have hlt : x < H.size := Nat.not_le.mp fun q => by rw [fr x q] at hc; cases hc
    rw [eh]
    show (if _ then _ else _) = _
    rw [if_neg (by omega), if_neg (by omega)]
    exact hc
  refine kk H.size h' (fr _ (Nat.le_refl _)) (fun j _ => fr _ (by omega)) p1 p2 p3 H1 _ ls _ _ ?_ ⟨Nat.le_trans hS.1 (by omega), fun x h1 h2 => (o1 x (Nat.lt_of_lt_of_le h1 hS.1)).trans (hS.2.1 x h1 h2), ?_⟩ hL hz (by omega) (by omega)
  · intro b d hbd
    by_cases q1 : b = H.size
    · subst q1
      rw [p1] at hbd
      cases hbd
      refine ⟨hge, ?_⟩
      show H1[H.size]? = some (vp_cell _ _)
      rw [e1, vp_cell_q]
      refine congrArg some (congrArg (arrV (gA G t) n) (funext fun j => ?_))
      by_cases hj : j < n
      · rw [if_pos hj, if_pos hj]; rfl
      · rw [if_neg hj, if_neg hj]; rfl
    · rw [eh] at hbd
      simp only [if_neg q1] at hbd
      by_cases q2 : H.size < b ∧ b < H.size + 1 + n
      · rw [if_pos q2] at hbd
        cases hbd
        refine ⟨Nat.le_trans hge (by omega), ?_⟩
        show H1[b]? = some (vp_cell _ _)
        rw [ha, ← i1 (b - (H.size + 1)) (by omega), show H.size + 1 + (b - (H.size + 1)) = b by omega]
      · rw [if_neg q2] at hbd
        exact ⟨(hR b d hbd).1, (hR b d hbd).2.kept (o1 b (hR b d hbd).2.lt)⟩
  · intro lc hlc
    rcases List.mem_append.mp hlc with q | q
    · exact hS.2.2 lc q
    · obtain ⟨j, -, rfl⟩ := List.mem_map.mp q
      exact hge
theorem gr_as (vm : Vm) (f : Nat) (c : ClassId) : vm.assignableAux (f + 1) c c = true := by
  unfold Vm.assignableAux
  rw [beq_self_eq_true, Bool.true_or]
/-- a row (or an array of rows) into an array of them -/
theorem V.aastA (hG : GOk G) (hF : Ok G F own cc nL ret) {a n b t t' : Nat} {x : vp_A} {f : Nat → Option Nat} {i : Int32} (ht : (t = 2 ∧ t' = 0) ∨ (t = 4 ∧ t' = 2)) (hd : decode cc pc = .ok (.aastore, 1)) (hc : h a = some (.inl (t, n, .inr (.inr (.inr (.inr f)))))) (hb : h b = some (.inl (t', x))) (hin : vp_in i n) (kk : V G F Q kc ks (pc + 1) L st (hset h a (.inl (t, n, .inr (.inr (.inr (.inr (va_up f i.toNatClampNeg (some b)))))))) ) : V G F Q kc ks pc L (.ref b :: .int i :: .ref a :: st) h := by
  intro H locs ls cells slots hR hS hL hz h1 h2
  obtain ⟨h0, hlt⟩ : ¬ i < 0 ∧ i.toNatClampNeg < n := ⟨fun q => hin (Or.inl q), Nat.not_le.mp fun q => hin (Or.inr q)⟩
  obtain ⟨eT, kA, kI, cc0, g1, g2, g3, g4, g5⟩ := gm_k hG hF ht
  have hgb : H[b]? = some (vp_cell (gA G t') x) := (hR b _ hb).2
  have hcls : (vp_cell (gA G t') x).cls = gA G t' := by
    obtain ⟨n0, x0⟩ := x
    rcases x0 with f | f | f | f | f <;> rfl
  have hvm : ∀ q, (vp_cell (gA G t') x).vm ≠ .statics q := by
    obtain ⟨n0, x0⟩ := x
    intro q hq
    rcases x0 with f | f | f | f | f <;> cases hq
  refine W.aast hF.1 hF.2.1 (hR a _ hc).2 (fun q h => by cases h) (fun h => by cases h) g2 g3 (by rw [eT]; rfl) g4 ⟨h0, by show _ < (arrV _ _ _).slots.size; rw [arrV_size]; exact hlt⟩ hgb hvm (by rw [hcls]; exact g4) (by rw [hcls]; exact gr_as _ 255 _) rfl rfl hd fun H1 e z oq => ?_
  refine kk H1 _ ls cells slots (hR.store (hR a _ hc).1 ?_ oq) (hS.put z oq (hR a _ hc).1) hL hz h1 h2
  show H1[a]? = some (vp_cell _ _)
  rw [e, vp_cell_q]
  show some ((arrV _ n _).setSlot _ _) = _
  rw [arrV_store]
  show some (arrV (gA G t) n (updV (fun j => va_rf (f j)) i.toNatClampNeg (.ref b))) = some (arrV (gA G t) n (fun j => va_rf (va_up f i.toNatClampNeg (some b) j)))
  refine congrArg some (congrArg (arrV (gA G t) n) (funext fun q => ?_))
  by_cases hq : q = i.toNatClampNeg
  · subst hq
    simp [updV, va_up, va_rf]
  · simp [updV, va_up, hq]
theorem V.aastAN (hG : GOk G) (hF : Ok G F own cc nL ret) {a n b t t' j : Nat} {x : vp_A} {f : Nat → Option Nat} (ht : (t = 2 ∧ t' = 0) ∨ (t = 4 ∧ t' = 2)) (hd : decode cc pc = .ok (.aastore, 1)) (hc : h a = some (.inl (t, n, .inr (.inr (.inr (.inr f)))))) (hb : h b = some (.inl (t', x))) (hj : j < n) (hn : n < 2 ^ 31) (kk : V G F Q kc ks (pc + 1) L st (hset h a (.inl (t, n, .inr (.inr (.inr (.inr (va_up f j (some b)))))))) ) : V G F Q kc ks pc L (.ref b :: .int (nI j) :: .ref a :: st) h := by
  have e : (nI j).toNatClampNeg = j := nI_clamp (Nat.lt_trans hj hn)
  exact V.aastA hG hF ht hd hc hb (vp_in_nI hj hn) (by rw [e]; exact kk)
/-- an array of rows -/
theorem V.newA (hG : GOk G) (hF : Ok G F own cc nL ret) {ix N : Nat} (w1 : Cond.classLink own ix "[I" ∈ lw_tbl) (hd : decode cc pc = .ok (.anewarray ix, 3)) (hN : N ≤ 1000)
    (kk : ∀ q : Nat, h q = none → V G F Q kc ks (pc + 3) L (.ref q :: st) (hset h q (.inl (2, N, .inr (.inr (.inr (.inr (fun _ => none)))))))) : V G F Q (kc + 1) (ks + N) pc L (.int (nI N) :: st) h := by
  intro H locs ls cells slots hR hS hL hz h1 h2
  obtain ⟨hx, hb, hml, hr, hown, hlk, hW⟩ := id hF
  have hge : gN G ≤ H.size := Nat.le_trans hW.2.1 hS.1
  have cn : (nI N).toNatClampNeg = N := nI_clamp (by omega)
  have k4 : (fS F).vm.findClass ("[" ++ (FieldType.array .int).toString) = some (gA G 2) := (gAr hG hF (t := 2) (by decide)).2
  have hw : (Cond.classLink own ix (FieldType.array .int).toString).before (fA F) (fS F) = true := hF.wd hG (w := Cond.classLink own ix (FieldType.array .int).toString) w1 rfl
  refine W.anewA hx hb hown hw (over_moved (State.WarmedH.alike hW.1) (hG.2.1 _ tw_ovA)) rfl hd rfl (nI_pos (by omega)) (by rw [cn]; omega) (by omega) (by rw [cn]; omega) fun cA kA comp f1 f2 f3 f4 => ?_
  have hcA : cA = gA G 2 := Option.some.inj (f1.symm.trans k4)
  subst hcA
  rw [cn]
  generalize hH1 : H.push ({ cls := gA G 2, slots := Array.replicate N .null, vm := .none } : Cell) = H1
  have z1 : H1.size = H.size + 1 := by rw [← hH1, Array.size_push]
  have e1 : H1[H.size]? = some (arrV (gA G 2) N (fun _ => .null)) := by rw [← hH1, Array.getElem?_push_size, ← arrV_new]
  have o1 : ∀ q : Nat, q < H.size → H1[q]? = H[q]? := fun q hq => by rw [← hH1, Array.getElem?_push, if_neg (Nat.ne_of_lt hq)]
  refine kk H.size hR.fresh H1 locs ls (cells + 1) (slots + N) ?_ ⟨Nat.le_trans hS.1 (by omega), fun x h1 h2 => (o1 x (Nat.lt_of_lt_of_le h1 hS.1)).trans (hS.2.1 x h1 h2), hS.2.2⟩ hL hz (by omega) (by omega)
  intro b d hbd
  by_cases hbH : b = H.size
  · subst hbH
    rw [hset_eq] at hbd
    cases hbd
    refine ⟨hge, ?_⟩
    show H1[H.size]? = some (vp_cell _ _)
    rw [e1]
    rfl
  · rw [hset_ne hbH] at hbd
    exact ⟨(hR b d hbd).1, (hR b d hbd).2.kept (o1 b (hR b d hbd).2.lt)⟩
theorem V.iremN (hF : Ok G F own cc nL ret) {a b : Nat} (hd : decode cc pc = .ok (.irem, 1)) (ha : a < 2 ^ 31) (h0 : 0 < b) (hb : b < 2 ^ 31) (kk : V G F Q kc ks (pc + 1) L (.int (nI (a % b)) :: st) h) : V G F Q kc ks pc L (.int (nI b) :: .int (nI a) :: st) h :=
  V.irem hF hd (fun q => nI_ne0 h0 hb q) (by rw [pk_rem ha h0 hb]; exact kk)
theorem V.idivN (hF : Ok G F own cc nL ret) {a b : Nat} (hd : decode cc pc = .ok (.idiv, 1)) (ha : a < 2 ^ 31) (h0 : 0 < b) (hb : b < 2 ^ 31) (kk : V G F Q kc ks (pc + 1) L (.int (nI (a / b)) :: st) h) : V G F Q kc ks pc L (.int (nI b) :: .int (nI a) :: st) h := by
  intro H locs ls cells slots hR hS hL hz h1 h2
  refine lv_idiv hF.1 hF.2.1 hd (fun q => nI_ne0 h0 hb q) ?_
  rw [pk_div ha h0 hb]
  exact kk H locs ls cells slots hR hS hL hz h1 h2
theorem V.retA {po : Option Value → Hp → Prop} {px : String → Hp → Prop} {t : FieldType} (hF : Ok G F own cc nL (some (.array t))) {a : Nat} (hd : decode cc pc = .ok (.areturn, 1)) (hp : po (some (.ref a)) h) : V G F (fin G F po px) kc ks pc L [.ref a] h := by
  intro H locs ls cells slots hR hS hL hz h1 h2
  refine vx_ret (W.widen (k := (fR F).cells) (n := (fR F).slots) (by omega) (by omega) ?_)
  exact W.aret hF.1 hF.2.1 hF.2.2.2.1 (Or.inr ⟨_, rfl⟩) (Or.inr ⟨_, rfl⟩) (fun t ht hW => ⟨_, h, rfl, hp, by rw [ht]; exact hR, hS.F ht⟩) hS.2.2 hd hF.2.2.2.2.2.1
theorem V.retN {po : Option Value → Hp → Prop} {px : String → Hp → Prop} {t : FieldType} (hF : Ok G F own cc nL (some (.array t))) (hd : decode cc pc = .ok (.areturn, 1)) (hp : po (some .null) h) : V G F (fin G F po px) kc ks pc L [.null] h := by
  intro H locs ls cells slots hR hS hL hz h1 h2
  refine vx_ret (W.widen (k := (fR F).cells) (n := (fR F).slots) (by omega) (by omega) ?_)
  exact W.aret hF.1 hF.2.1 hF.2.2.2.1 (Or.inr ⟨_, rfl⟩) (Or.inl rfl) (fun t ht hW => ⟨_, h, rfl, hp, by rw [ht]; exact hR, hS.F ht⟩) hS.2.2 hd hF.2.2.2.2.2.1
end G4
end
section
/-! ===== LineList: at most 12 lines as four rows ===== -/
def LLc (h : Hp) (a d c m w : Nat) (D C M W : Nat → Int32) (n : Nat) : Prop := h a = some (.inr (0, [.ref d, .ref c, .ref m, .ref w, .int (nI n)])) ∧ h d = some (.inl (0, 12, .inl D)) ∧ h c = some (.inl (0, 12, .inl C)) ∧ h m = some (.inl (0, 12, .inl M)) ∧ h w = some (.inl (0, 12, .inl W))
def nd4 (d c m w : Nat) : Prop := d ≠ c ∧ d ≠ m ∧ d ≠ w ∧ c ≠ m ∧ c ≠ w ∧ m ≠ w
def nd5 (a d c m w : Nat) : Prop := (a ≠ d ∧ a ≠ c ∧ a ≠ m ∧ a ≠ w) ∧ nd4 d c m w
theorem LLc.nd {h : Hp} {a d c m w n : Nat} {D C M W : Nat → Int32} (hL : LLc h a d c m w D C M W n) (h4 : nd4 d c m w) : nd5 a d c m w := by
  obtain ⟨h1, h2, h3, h5, h6⟩ := hL
  refine ⟨⟨?_, ?_, ?_, ?_⟩, h4⟩ <;> (rintro rfl; rw [h1] at *; simp at *)
/-- what a person has by the first lines -/
def bal (D C M : Nat → Int32) (p : Int32) : Nat → Int32
  | 0 => 0
  | j + 1 => if C j = p then bal D C M p j + M j else if D j = p then bal D C M p j - M j else bal D C M p j
def sm (M : Nat → Int32) : Nat → Int32
  | 0 => 0
  | j + 1 => sm M j + M j
def owe (D C M : Nat → Int32) (p q : Int32) : Nat → Int32
  | 0 => 0
  | j + 1 => if D j = p ∧ C j = q then owe D C M p q j + M j else owe D C M p q j
def wit (M W : Nat → Int32) (p : Int32) : Nat → Int32
  | 0 => 0
  | j + 1 => if W j = p then wit M W p j + M j else wit M W p j
def cbits (D C : Nat → Int32) (p : Int32) : Nat → Int32
  | 0 => 0
  | j + 1 => if D j = p then cbits D C p j ||| (1 <<< (C j &&& 31)) else cbits D C p j
abbrev is_i (r : Int32) (h : Hp) : Option Value → Hp → Prop := fun v h' => v = some (.int r) ∧ h' = h
section LLs
variable {G : Gt} {h : Hp} {a d c m w n : Nat} {D C M W : Nat → Int32}
set_option maxHeartbeats 4000000 in
theorem c_X0_balanceOf (hG : GOk G) (hL : LLc h a d c m w D C M W n) (hn : n ≤ 12) (p : Int32) :
    Ct G yX0_balanceOf (.code yX0_balanceOf cX0_balanceOf 4 (some .int)) 0 0 0 0 [.ref a, .int p] h (is_i (bal D C M p n) h) pxN := by
  refine Ct.of (by decide +kernel) (Nat.le_of_ble_eq_true rfl) fun F hF hT hN hRm => ?_
  obtain ⟨hA, hd, hc, hm, hw⟩ := hL
  have loop : ∀ i, i ≤ n → V G F (fin G F (is_i (bal D C M p n) h) pxN) 0 0 4 [some (.ref a), some (.int p), some (.int (bal D C M p i)), some (.int (nI i))] [] h := by
    refine lp_up n fun i hi ih => ?_
    refine V.run hF [(.iload_n 3, 1, .null), (.aload_n 0, 1, .null)] (pc' := 6) (L' := [some (.ref a), some (.int p), some (.int (bal D C M p i)), some (.int (nI i))]) (st' := [.ref a, .int (nI i)]) (by decide +kernel) rfl ?_
    refine V.getf hG hF k_RX0_24 (by decide +kernel) hA rfl ?_
    refine V.icmpN_ge (i := i) (j := n) hF (off := 50) (tgt := 59) (by decide +kernel) (by decide) (by omega) (by omega) (fun c1 => ?_) (fun c1 => ?_)
    · obtain rfl : i = n := by omega
      refine V.run hF [(.iload_n 2, 1, .null)] (pc' := 60) (L' := [some (.ref a), some (.int p), some (.int (bal D C M p i)), some (.int (nI i))]) (st' := [.int (bal D C M p i)]) (by decide +kernel) rfl ?_
      exact V.reti hF (by decide +kernel) ⟨rfl, rfl⟩
    · skip
      refine V.run hF [(.aload_n 0, 1, .null)] (pc' := 13) (L' := [some (.ref a), some (.int p), some (.int (bal D C M p i)), some (.int (nI i))]) (st' := [.ref a]) (by decide +kernel) rfl ?_
      refine V.getf hG hF k_RX0_15 (by decide +kernel) hA rfl ?_
      refine V.run hF [(.iload_n 3, 1, .null)] (pc' := 17) (L' := [some (.ref a), some (.int p), some (.int (bal D C M p i)), some (.int (nI i))]) (st' := [.int (nI i), .ref c]) (by decide +kernel) rfl ?_
      refine V.ialdN (j := i) hG hF (by decide +kernel) hc (by omega) (by decide) ?_
      refine V.run hF [(.iload_n 1, 1, .null)] (pc' := 19) (L' := [some (.ref a), some (.int p), some (.int (bal D C M p i)), some (.int (nI i))]) (st' := [.int p, .int (C i)]) (by decide +kernel) rfl ?_
      refine V.icmp_ne hF (off := 15) (tgt := 34) (by decide +kernel) (by decide) (fun c2 => ?_) (fun c2 => ?_)
      · skip
        refine V.run hF [(.aload_n 0, 1, .null)] (pc' := 35) (L' := [some (.ref a), some (.int p), some (.int (bal D C M p i)), some (.int (nI i))]) (st' := [.ref a]) (by decide +kernel) rfl ?_
        refine V.getf hG hF k_RX0_9 (by decide +kernel) hA rfl ?_
        refine V.run hF [(.iload_n 3, 1, .null)] (pc' := 39) (L' := [some (.ref a), some (.int p), some (.int (bal D C M p i)), some (.int (nI i))]) (st' := [.int (nI i), .ref d]) (by decide +kernel) rfl ?_
        refine V.ialdN (j := i) hG hF (by decide +kernel) hd (by omega) (by decide) ?_
        refine V.run hF [(.iload_n 1, 1, .null)] (pc' := 41) (L' := [some (.ref a), some (.int p), some (.int (bal D C M p i)), some (.int (nI i))]) (st' := [.int p, .int (D i)]) (by decide +kernel) rfl ?_
        refine V.icmp_ne hF (off := 12) (tgt := 53) (by decide +kernel) (by decide) (fun c3 => ?_) (fun c3 => ?_)
        · skip
          refine V.run hF [(.iinc 3 1, 3, .int 1), (.goto (-52), 3, .null)] (pc' := 4) (L' := [some (.ref a), some (.int p), some (.int (bal D C M p i)), some (.int ((nI i) + 1))]) (st' := []) (by decide +kernel) rfl ?_
          rw [nI_1 i]
          rw [show bal D C M p i = bal D C M p (i + 1) by simp [bal, c2, c3]]
          exact ih c1
        · skip
          refine V.run hF [(.iload_n 2, 1, .null), (.aload_n 0, 1, .null)] (pc' := 46) (L' := [some (.ref a), some (.int p), some (.int (bal D C M p i)), some (.int (nI i))]) (st' := [.ref a, .int (bal D C M p i)]) (by decide +kernel) rfl ?_
          refine V.getf hG hF k_RX0_18 (by decide +kernel) hA rfl ?_
          refine V.run hF [(.iload_n 3, 1, .null)] (pc' := 50) (L' := [some (.ref a), some (.int p), some (.int (bal D C M p i)), some (.int (nI i))]) (st' := [.int (nI i), .ref m, .int (bal D C M p i)]) (by decide +kernel) rfl ?_
          refine V.ialdN (j := i) hG hF (by decide +kernel) hm (by omega) (by decide) ?_
          refine V.run hF [(.isub, 1, .null), (.istore_n 2, 1, .null), (.iinc 3 1, 3, .int 1), (.goto (-52), 3, .null)] (pc' := 4) (L' := [some (.ref a), some (.int p), some (.int (bal D C M p i - M i)), some (.int ((nI i) + 1))]) (st' := []) (by decide +kernel) rfl ?_
          rw [nI_1 i]
          rw [show bal D C M p i - M i = bal D C M p (i + 1) by simp [bal, c2, c3]]
          exact ih c1
      · skip
        refine V.run hF [(.iload_n 2, 1, .null), (.aload_n 0, 1, .null)] (pc' := 24) (L' := [some (.ref a), some (.int p), some (.int (bal D C M p i)), some (.int (nI i))]) (st' := [.ref a, .int (bal D C M p i)]) (by decide +kernel) rfl ?_
        refine V.getf hG hF k_RX0_18 (by decide +kernel) hA rfl ?_
        refine V.run hF [(.iload_n 3, 1, .null)] (pc' := 28) (L' := [some (.ref a), some (.int p), some (.int (bal D C M p i)), some (.int (nI i))]) (st' := [.int (nI i), .ref m, .int (bal D C M p i)]) (by decide +kernel) rfl ?_
        refine V.ialdN (j := i) hG hF (by decide +kernel) hm (by omega) (by decide) ?_
        refine V.run hF [(.iadd, 1, .null), (.istore_n 2, 1, .null), (.goto 22, 3, .null), (.iinc 3 1, 3, .int 1), (.goto (-52), 3, .null)] (pc' := 4) (L' := [some (.ref a), some (.int p), some (.int (bal D C M p i + M i)), some (.int ((nI i) + 1))]) (st' := []) (by decide +kernel) rfl ?_
        rw [nI_1 i]
        rw [show bal D C M p i + M i = bal D C M p (i + 1) by simp [bal, c2]]
        exact ih c1
  refine V.run hF [(.iconst 0, 1, .int 0), (.istore_n 2, 1, .null), (.iconst 0, 1, .int 0), (.istore_n 3, 1, .null)] (pc' := 4) (L' := [some (.ref a), some (.int p), some (.int 0), some (.int 0)]) (st' := []) (by decide +kernel) rfl ?_
  exact loop 0 (Nat.zero_le _)
set_option maxHeartbeats 4000000 in
theorem c_X0_sum (hG : GOk G) (hL : LLc h a d c m w D C M W n) (hn : n ≤ 12) :
    Ct G yX0_sum (.code yX0_sum cX0_sum 3 (some .int)) 0 0 0 0 [.ref a] h (is_i (sm M n) h) pxN := by
  refine Ct.of (by decide +kernel) (Nat.le_of_ble_eq_true rfl) fun F hF hT hN hRm => ?_
  obtain ⟨hA, hd, hc, hm, hw⟩ := hL
  have loop : ∀ i, i ≤ n → V G F (fin G F (is_i (sm M n) h) pxN) 0 0 4 [some (.ref a), some (.int (sm M i)), some (.int (nI i))] [] h := by
    refine lp_up n fun i hi ih => ?_
    refine V.run hF [(.iload_n 2, 1, .null), (.aload_n 0, 1, .null)] (pc' := 6) (L' := [some (.ref a), some (.int (sm M i)), some (.int (nI i))]) (st' := [.ref a, .int (nI i)]) (by decide +kernel) rfl ?_
    refine V.getf hG hF k_RX0_24 (by decide +kernel) hA rfl ?_
    refine V.icmpN_ge (i := i) (j := n) hF (off := 18) (tgt := 27) (by decide +kernel) (by decide) (by omega) (by omega) (fun c1 => ?_) (fun c1 => ?_)
    · obtain rfl : i = n := by omega
      refine V.run hF [(.iload_n 1, 1, .null)] (pc' := 28) (L' := [some (.ref a), some (.int (sm M i)), some (.int (nI i))]) (st' := [.int (sm M i)]) (by decide +kernel) rfl ?_
      exact V.reti hF (by decide +kernel) ⟨rfl, rfl⟩
    · skip
      refine V.run hF [(.iload_n 1, 1, .null), (.aload_n 0, 1, .null)] (pc' := 14) (L' := [some (.ref a), some (.int (sm M i)), some (.int (nI i))]) (st' := [.ref a, .int (sm M i)]) (by decide +kernel) rfl ?_
      refine V.getf hG hF k_RX0_18 (by decide +kernel) hA rfl ?_
      refine V.run hF [(.iload_n 2, 1, .null)] (pc' := 18) (L' := [some (.ref a), some (.int (sm M i)), some (.int (nI i))]) (st' := [.int (nI i), .ref m, .int (sm M i)]) (by decide +kernel) rfl ?_
      refine V.ialdN (j := i) hG hF (by decide +kernel) hm (by omega) (by decide) ?_
      refine V.run hF [(.iadd, 1, .null), (.istore_n 1, 1, .null), (.iinc 2 1, 3, .int 1), (.goto (-20), 3, .null)] (pc' := 4) (L' := [some (.ref a), some (.int (sm M i + M i)), some (.int ((nI i) + 1))]) (st' := []) (by decide +kernel) rfl ?_
      rw [nI_1 i]
      exact ih c1
  refine V.run hF [(.iconst 0, 1, .int 0), (.istore_n 1, 1, .null), (.iconst 0, 1, .int 0), (.istore_n 2, 1, .null)] (pc' := 4) (L' := [some (.ref a), some (.int 0), some (.int 0)]) (st' := []) (by decide +kernel) rfl ?_
  exact loop 0 (Nat.zero_le _)
set_option maxHeartbeats 4000000 in
theorem c_X0_owedBetween (hG : GOk G) (hL : LLc h a d c m w D C M W n) (hn : n ≤ 12) (p q : Int32) :
    Ct G yX0_owedBetween (.code yX0_owedBetween cX0_owedBetween 5 (some .int)) 0 0 0 0 [.ref a, .int p, .int q] h (is_i (owe D C M p q n) h) pxN := by
  refine Ct.of (by decide +kernel) (Nat.le_of_ble_eq_true rfl) fun F hF hT hN hRm => ?_
  obtain ⟨hA, hd, hc, hm, hw⟩ := hL
  have loop : ∀ i, i ≤ n → V G F (fin G F (is_i (owe D C M p q n) h) pxN) 0 0 5 [some (.ref a), some (.int p), some (.int q), some (.int (owe D C M p q i)), some (.int (nI i))] [] h := by
    refine lp_up n fun i hi ih => ?_
    refine V.run hF [(.iload 4, 2, .null), (.aload_n 0, 1, .null)] (pc' := 8) (L' := [some (.ref a), some (.int p), some (.int q), some (.int (owe D C M p q i)), some (.int (nI i))]) (st' := [.ref a, .int (nI i)]) (by decide +kernel) rfl ?_
    refine V.getf hG hF k_RX0_24 (by decide +kernel) hA rfl ?_
    refine V.icmpN_ge (i := i) (j := n) hF (off := 41) (tgt := 52) (by decide +kernel) (by decide) (by omega) (by omega) (fun c1 => ?_) (fun c1 => ?_)
    · obtain rfl : i = n := by omega
      refine V.run hF [(.iload_n 3, 1, .null)] (pc' := 53) (L' := [some (.ref a), some (.int p), some (.int q), some (.int (owe D C M p q i)), some (.int (nI i))]) (st' := [.int (owe D C M p q i)]) (by decide +kernel) rfl ?_
      exact V.reti hF (by decide +kernel) ⟨rfl, rfl⟩
    · skip
      refine V.run hF [(.aload_n 0, 1, .null)] (pc' := 15) (L' := [some (.ref a), some (.int p), some (.int q), some (.int (owe D C M p q i)), some (.int (nI i))]) (st' := [.ref a]) (by decide +kernel) rfl ?_
      refine V.getf hG hF k_RX0_9 (by decide +kernel) hA rfl ?_
      refine V.run hF [(.iload 4, 2, .null)] (pc' := 20) (L' := [some (.ref a), some (.int p), some (.int q), some (.int (owe D C M p q i)), some (.int (nI i))]) (st' := [.int (nI i), .ref d]) (by decide +kernel) rfl ?_
      refine V.ialdN (j := i) hG hF (by decide +kernel) hd (by omega) (by decide) ?_
      refine V.run hF [(.iload_n 1, 1, .null)] (pc' := 22) (L' := [some (.ref a), some (.int p), some (.int q), some (.int (owe D C M p q i)), some (.int (nI i))]) (st' := [.int p, .int (D i)]) (by decide +kernel) rfl ?_
      refine V.icmp_ne hF (off := 24) (tgt := 46) (by decide +kernel) (by decide) (fun c2 => ?_) (fun c2 => ?_)
      · skip
        refine V.run hF [(.iinc 4 1, 3, .int 1), (.goto (-44), 3, .null)] (pc' := 5) (L' := [some (.ref a), some (.int p), some (.int q), some (.int (owe D C M p q i)), some (.int ((nI i) + 1))]) (st' := []) (by decide +kernel) rfl ?_
        rw [nI_1 i]
        rw [show owe D C M p q i = owe D C M p q (i + 1) by simp [owe, c2]]
        exact ih c1
      · skip
        refine V.run hF [(.aload_n 0, 1, .null)] (pc' := 26) (L' := [some (.ref a), some (.int p), some (.int q), some (.int (owe D C M p q i)), some (.int (nI i))]) (st' := [.ref a]) (by decide +kernel) rfl ?_
        refine V.getf hG hF k_RX0_15 (by decide +kernel) hA rfl ?_
        refine V.run hF [(.iload 4, 2, .null)] (pc' := 31) (L' := [some (.ref a), some (.int p), some (.int q), some (.int (owe D C M p q i)), some (.int (nI i))]) (st' := [.int (nI i), .ref c]) (by decide +kernel) rfl ?_
        refine V.ialdN (j := i) hG hF (by decide +kernel) hc (by omega) (by decide) ?_
        refine V.run hF [(.iload_n 2, 1, .null)] (pc' := 33) (L' := [some (.ref a), some (.int p), some (.int q), some (.int (owe D C M p q i)), some (.int (nI i))]) (st' := [.int q, .int (C i)]) (by decide +kernel) rfl ?_
        refine V.icmp_ne hF (off := 13) (tgt := 46) (by decide +kernel) (by decide) (fun c3 => ?_) (fun c3 => ?_)
        · skip
          refine V.run hF [(.iinc 4 1, 3, .int 1), (.goto (-44), 3, .null)] (pc' := 5) (L' := [some (.ref a), some (.int p), some (.int q), some (.int (owe D C M p q i)), some (.int ((nI i) + 1))]) (st' := []) (by decide +kernel) rfl ?_
          rw [nI_1 i]
          rw [show owe D C M p q i = owe D C M p q (i + 1) by simp [owe, c2, c3]]
          exact ih c1
        · skip
          refine V.run hF [(.iload_n 3, 1, .null), (.aload_n 0, 1, .null)] (pc' := 38) (L' := [some (.ref a), some (.int p), some (.int q), some (.int (owe D C M p q i)), some (.int (nI i))]) (st' := [.ref a, .int (owe D C M p q i)]) (by decide +kernel) rfl ?_
          refine V.getf hG hF k_RX0_18 (by decide +kernel) hA rfl ?_
          refine V.run hF [(.iload 4, 2, .null)] (pc' := 43) (L' := [some (.ref a), some (.int p), some (.int q), some (.int (owe D C M p q i)), some (.int (nI i))]) (st' := [.int (nI i), .ref m, .int (owe D C M p q i)]) (by decide +kernel) rfl ?_
          refine V.ialdN (j := i) hG hF (by decide +kernel) hm (by omega) (by decide) ?_
          refine V.run hF [(.iadd, 1, .null), (.istore_n 3, 1, .null), (.iinc 4 1, 3, .int 1), (.goto (-44), 3, .null)] (pc' := 5) (L' := [some (.ref a), some (.int p), some (.int q), some (.int (owe D C M p q i + M i)), some (.int ((nI i) + 1))]) (st' := []) (by decide +kernel) rfl ?_
          rw [nI_1 i]
          rw [show owe D C M p q i + M i = owe D C M p q (i + 1) by simp [owe, c2, c3]]
          exact ih c1
  refine V.run hF [(.iconst 0, 1, .int 0), (.istore_n 3, 1, .null), (.iconst 0, 1, .int 0), (.istore 4, 2, .null)] (pc' := 5) (L' := [some (.ref a), some (.int p), some (.int q), some (.int 0), some (.int 0)]) (st' := []) (by decide +kernel) rfl ?_
  exact loop 0 (Nat.zero_le _)
set_option maxHeartbeats 4000000 in
theorem c_X0_sumWitnessedBy (hG : GOk G) (hL : LLc h a d c m w D C M W n) (hn : n ≤ 12) (p : Int32) :
    Ct G yX0_sumWitnessedBy (.code yX0_sumWitnessedBy cX0_sumWitnessedBy 4 (some .int)) 0 0 0 0 [.ref a, .int p] h (is_i (wit M W p n) h) pxN := by
  refine Ct.of (by decide +kernel) (Nat.le_of_ble_eq_true rfl) fun F hF hT hN hRm => ?_
  obtain ⟨hA, hd, hc, hm, hw⟩ := hL
  have loop : ∀ i, i ≤ n → V G F (fin G F (is_i (wit M W p n) h) pxN) 0 0 4 [some (.ref a), some (.int p), some (.int (wit M W p i)), some (.int (nI i))] [] h := by
    refine lp_up n fun i hi ih => ?_
    refine V.run hF [(.iload_n 3, 1, .null), (.aload_n 0, 1, .null)] (pc' := 6) (L' := [some (.ref a), some (.int p), some (.int (wit M W p i)), some (.int (nI i))]) (st' := [.ref a, .int (nI i)]) (by decide +kernel) rfl ?_
    refine V.getf hG hF k_RX0_24 (by decide +kernel) hA rfl ?_
    refine V.icmpN_ge (i := i) (j := n) hF (off := 28) (tgt := 37) (by decide +kernel) (by decide) (by omega) (by omega) (fun c1 => ?_) (fun c1 => ?_)
    · obtain rfl : i = n := by omega
      refine V.run hF [(.iload_n 2, 1, .null)] (pc' := 38) (L' := [some (.ref a), some (.int p), some (.int (wit M W p i)), some (.int (nI i))]) (st' := [.int (wit M W p i)]) (by decide +kernel) rfl ?_
      exact V.reti hF (by decide +kernel) ⟨rfl, rfl⟩
    · skip
      refine V.run hF [(.aload_n 0, 1, .null)] (pc' := 13) (L' := [some (.ref a), some (.int p), some (.int (wit M W p i)), some (.int (nI i))]) (st' := [.ref a]) (by decide +kernel) rfl ?_
      refine V.getf hG hF k_RX0_21 (by decide +kernel) hA rfl ?_
      refine V.run hF [(.iload_n 3, 1, .null)] (pc' := 17) (L' := [some (.ref a), some (.int p), some (.int (wit M W p i)), some (.int (nI i))]) (st' := [.int (nI i), .ref w]) (by decide +kernel) rfl ?_
      refine V.ialdN (j := i) hG hF (by decide +kernel) hw (by omega) (by decide) ?_
      refine V.run hF [(.iload_n 1, 1, .null)] (pc' := 19) (L' := [some (.ref a), some (.int p), some (.int (wit M W p i)), some (.int (nI i))]) (st' := [.int p, .int (W i)]) (by decide +kernel) rfl ?_
      refine V.icmp_ne hF (off := 12) (tgt := 31) (by decide +kernel) (by decide) (fun c2 => ?_) (fun c2 => ?_)
      · skip
        refine V.run hF [(.iinc 3 1, 3, .int 1), (.goto (-30), 3, .null)] (pc' := 4) (L' := [some (.ref a), some (.int p), some (.int (wit M W p i)), some (.int ((nI i) + 1))]) (st' := []) (by decide +kernel) rfl ?_
        rw [nI_1 i]
        rw [show wit M W p i = wit M W p (i + 1) by simp [wit, c2]]
        exact ih c1
      · skip
        refine V.run hF [(.iload_n 2, 1, .null), (.aload_n 0, 1, .null)] (pc' := 24) (L' := [some (.ref a), some (.int p), some (.int (wit M W p i)), some (.int (nI i))]) (st' := [.ref a, .int (wit M W p i)]) (by decide +kernel) rfl ?_
        refine V.getf hG hF k_RX0_18 (by decide +kernel) hA rfl ?_
        refine V.run hF [(.iload_n 3, 1, .null)] (pc' := 28) (L' := [some (.ref a), some (.int p), some (.int (wit M W p i)), some (.int (nI i))]) (st' := [.int (nI i), .ref m, .int (wit M W p i)]) (by decide +kernel) rfl ?_
        refine V.ialdN (j := i) hG hF (by decide +kernel) hm (by omega) (by decide) ?_
        refine V.run hF [(.iadd, 1, .null), (.istore_n 2, 1, .null), (.iinc 3 1, 3, .int 1), (.goto (-30), 3, .null)] (pc' := 4) (L' := [some (.ref a), some (.int p), some (.int (wit M W p i + M i)), some (.int ((nI i) + 1))]) (st' := []) (by decide +kernel) rfl ?_
        rw [nI_1 i]
        rw [show wit M W p i + M i = wit M W p (i + 1) by simp [wit, c2]]
        exact ih c1
  refine V.run hF [(.iconst 0, 1, .int 0), (.istore_n 2, 1, .null), (.iconst 0, 1, .int 0), (.istore_n 3, 1, .null)] (pc' := 4) (L' := [some (.ref a), some (.int p), some (.int 0), some (.int 0)]) (st' := []) (by decide +kernel) rfl ?_
  exact loop 0 (Nat.zero_le _)
set_option maxHeartbeats 4000000 in
theorem c_X0_creditorBits (hG : GOk G) (hL : LLc h a d c m w D C M W n) (hn : n ≤ 12) (p : Int32) :
    Ct G yX0_creditorBits (.code yX0_creditorBits cX0_creditorBits 4 (some .int)) 0 0 0 0 [.ref a, .int p] h (is_i (cbits D C p n) h) pxN := by
  refine Ct.of (by decide +kernel) (Nat.le_of_ble_eq_true rfl) fun F hF hT hN hRm => ?_
  obtain ⟨hA, hd, hc, hm, hw⟩ := hL
  have loop : ∀ i, i ≤ n → V G F (fin G F (is_i (cbits D C p n) h) pxN) 0 0 4 [some (.ref a), some (.int p), some (.int (cbits D C p i)), some (.int (nI i))] [] h := by
    refine lp_up n fun i hi ih => ?_
    refine V.run hF [(.iload_n 3, 1, .null), (.aload_n 0, 1, .null)] (pc' := 6) (L' := [some (.ref a), some (.int p), some (.int (cbits D C p i)), some (.int (nI i))]) (st' := [.ref a, .int (nI i)]) (by decide +kernel) rfl ?_
    refine V.getf hG hF k_RX0_24 (by decide +kernel) hA rfl ?_
    refine V.icmpN_ge (i := i) (j := n) hF (off := 30) (tgt := 39) (by decide +kernel) (by decide) (by omega) (by omega) (fun c1 => ?_) (fun c1 => ?_)
    · obtain rfl : i = n := by omega
      refine V.run hF [(.iload_n 2, 1, .null)] (pc' := 40) (L' := [some (.ref a), some (.int p), some (.int (cbits D C p i)), some (.int (nI i))]) (st' := [.int (cbits D C p i)]) (by decide +kernel) rfl ?_
      exact V.reti hF (by decide +kernel) ⟨rfl, rfl⟩
    · skip
      refine V.run hF [(.aload_n 0, 1, .null)] (pc' := 13) (L' := [some (.ref a), some (.int p), some (.int (cbits D C p i)), some (.int (nI i))]) (st' := [.ref a]) (by decide +kernel) rfl ?_
      refine V.getf hG hF k_RX0_9 (by decide +kernel) hA rfl ?_
      refine V.run hF [(.iload_n 3, 1, .null)] (pc' := 17) (L' := [some (.ref a), some (.int p), some (.int (cbits D C p i)), some (.int (nI i))]) (st' := [.int (nI i), .ref d]) (by decide +kernel) rfl ?_
      refine V.ialdN (j := i) hG hF (by decide +kernel) hd (by omega) (by decide) ?_
      refine V.run hF [(.iload_n 1, 1, .null)] (pc' := 19) (L' := [some (.ref a), some (.int p), some (.int (cbits D C p i)), some (.int (nI i))]) (st' := [.int p, .int (D i)]) (by decide +kernel) rfl ?_
      refine V.icmp_ne hF (off := 14) (tgt := 33) (by decide +kernel) (by decide) (fun c2 => ?_) (fun c2 => ?_)
      · skip
        refine V.run hF [(.iinc 3 1, 3, .int 1), (.goto (-32), 3, .null)] (pc' := 4) (L' := [some (.ref a), some (.int p), some (.int (cbits D C p i)), some (.int ((nI i) + 1))]) (st' := []) (by decide +kernel) rfl ?_
        rw [nI_1 i]
        rw [show cbits D C p i = cbits D C p (i + 1) by simp [cbits, c2]]
        exact ih c1
      · skip
        refine V.run hF [(.iload_n 2, 1, .null), (.iconst 1, 1, .int 1), (.aload_n 0, 1, .null)] (pc' := 25) (L' := [some (.ref a), some (.int p), some (.int (cbits D C p i)), some (.int (nI i))]) (st' := [.ref a, .int 1, .int (cbits D C p i)]) (by decide +kernel) rfl ?_
        refine V.getf hG hF k_RX0_15 (by decide +kernel) hA rfl ?_
        refine V.run hF [(.iload_n 3, 1, .null)] (pc' := 29) (L' := [some (.ref a), some (.int p), some (.int (cbits D C p i)), some (.int (nI i))]) (st' := [.int (nI i), .ref c, .int 1, .int (cbits D C p i)]) (by decide +kernel) rfl ?_
        refine V.ialdN (j := i) hG hF (by decide +kernel) hc (by omega) (by decide) ?_
        refine V.run hF [(.ishl, 1, .null), (.ior, 1, .null), (.istore_n 2, 1, .null), (.iinc 3 1, 3, .int 1), (.goto (-32), 3, .null)] (pc' := 4) (L' := [some (.ref a), some (.int p), some (.int (cbits D C p i ||| (1 <<< ((C i) &&& 31)))), some (.int ((nI i) + 1))]) (st' := []) (by decide +kernel) rfl ?_
        rw [nI_1 i]
        rw [show cbits D C p i ||| 1 <<< (C i &&& 31) = cbits D C p (i + 1) by simp [cbits, c2]]
        exact ih c1
  refine V.run hF [(.iconst 0, 1, .int 0), (.istore_n 2, 1, .null), (.iconst 0, 1, .int 0), (.istore_n 3, 1, .null)] (pc' := 4) (L' := [some (.ref a), some (.int p), some (.int 0), some (.int 0)]) (st' := []) (by decide +kernel) rfl ?_
  exact loop 0 (Nat.zero_le _)
end LLs
end
section
/-! ===== LineList: its writes ===== -/
def kp5 (h h' : Hp) (a d c m w : Nat) : Prop := ∀ q : Nat, q ≠ a → q ≠ d → q ≠ c → q ≠ m → q ≠ w → h' q = h q
theorem kp5.rf {h : Hp} {a d c m w : Nat} : kp5 h h a d c m w := fun _ _ _ _ _ _ => rfl
theorem kp5.tr {h h1 h2 : Hp} {a d c m w : Nat} (p : kp5 h h1 a d c m w) (q : kp5 h1 h2 a d c m w) : kp5 h h2 a d c m w := fun x e1 e2 e3 e4 e5 => (q x e1 e2 e3 e4 e5).trans (p x e1 e2 e3 e4 e5)
abbrev is_v (P : Hp → Prop) : Option Value → Hp → Prop := fun v h' => v = none ∧ P h'
section LLw
variable {G : Gt} {h : Hp} {a d c m w n : Nat} {D C M W : Nat → Int32}
set_option maxHeartbeats 4000000 in
theorem c_X0_append (hG : GOk G) (hL : LLc h a d c m w D C M W n) (hnd : nd4 d c m w) (hn : n < 12) (x0 x1 x2 x3 : Int32) :
    Ct G yX0_append (.code yX0_append cX0_append 6 none) 0 0 0 0 [.ref a, .int x0, .int x1, .int x2, .int x3] h (is_v fun h' => LLc h' a d c m w (upd D n x0) (upd C n x1) (upd M n x2) (upd W n x3) (n + 1) ∧ kp5 h h' a d c m w) pxN := by
  refine Ct.of (by decide +kernel) (Nat.le_of_ble_eq_true rfl) fun F hF hT hN hRm => ?_
  obtain ⟨⟨na1, na2, na3, na4⟩, n1, n2, n3, n4, n5, n6⟩ := hL.nd hnd
  obtain ⟨hA, hd, hc, hm, hw⟩ := hL
  refine V.run hF [(.aload_n 0, 1, .null)] (pc' := 1) (L' := [some (.ref a), some (.int x0), some (.int x1), some (.int x2), some (.int x3), none]) (st' := [.ref a]) (by decide +kernel) rfl ?_
  refine V.getf hG hF k_RX0_24 (by decide +kernel) hA rfl ?_
  refine V.run hF [(.istore 5, 2, .null), (.iload 5, 2, .null)] (pc' := 8) (L' := [some (.ref a), some (.int x0), some (.int x1), some (.int x2), some (.int x3), some (.int (nI n))]) (st' := [.int (nI n)]) (by decide +kernel) rfl ?_
  refine V.if_lt hF (off := 10) (tgt := 18) (by decide +kernel) (by decide) (fun c1 => ?_) (fun c1 => ?_)
  · exact absurd c1 (by have := nI_pos (n := n) (by omega); exact this)
  · skip
    refine V.run hF [(.iload 5, 2, .null), (.bipush 12, 2, .int (nI 12))] (pc' := 15) (L' := [some (.ref a), some (.int x0), some (.int x1), some (.int x2), some (.int x3), some (.int (nI n))]) (st' := [.int (nI 12), .int (nI n)]) (by decide +kernel) rfl ?_
    refine V.icmpN_lt (i := n) (j := 12) hF (off := 4) (tgt := 19) (by decide +kernel) (by decide) (by omega) (by omega) (fun c2 => ?_) (fun c2 => ?_)
    · skip
      refine V.run hF [(.aload_n 0, 1, .null)] (pc' := 20) (L' := [some (.ref a), some (.int x0), some (.int x1), some (.int x2), some (.int x3), some (.int (nI n))]) (st' := [.ref a]) (by decide +kernel) rfl ?_
      refine V.getf hG hF k_RX0_9 (by decide +kernel) hA rfl ?_
      refine V.run hF [(.iload 5, 2, .null), (.iload_n 1, 1, .null)] (pc' := 26) (L' := [some (.ref a), some (.int x0), some (.int x1), some (.int x2), some (.int x3), some (.int (nI n))]) (st' := [.int x0, .int (nI n), .ref d]) (by decide +kernel) rfl ?_
      refine V.iastN (j := n) hG hF (by decide +kernel) hd (by omega) (by decide) ?_
      obtain ⟨h_1, gh1⟩ : ∃ z : Hp, z = hset h d (.inl (0, 12, .inl (upd D n x0))) := ⟨_, rfl⟩
      refine V.hp gh1 ?_
      have gk1 : ∀ q : Nat, q ≠ d → h_1 q = h q := fun q hq => by rw [gh1]; exact hset_ne hq
      have gs1 : h_1 d = some (.inl (0, 12, .inl (upd D n x0))) := by rw [gh1]; exact hset_eq
      refine V.run hF [(.aload_n 0, 1, .null)] (pc' := 28) (L' := [some (.ref a), some (.int x0), some (.int x1), some (.int x2), some (.int x3), some (.int (nI n))]) (st' := [.ref a]) (by decide +kernel) rfl ?_
      have gf2 : h_1 a = some (.inr (0, [.ref d, .ref c, .ref m, .ref w, .int (nI n)])) := (gk1 a (by first | assumption | exact Ne.symm (by assumption) | omega)).trans hA
      refine V.getf hG hF k_RX0_15 (by decide +kernel) gf2 rfl ?_
      refine V.run hF [(.iload 5, 2, .null), (.iload_n 2, 1, .null)] (pc' := 34) (L' := [some (.ref a), some (.int x0), some (.int x1), some (.int x2), some (.int x3), some (.int (nI n))]) (st' := [.int x1, .int (nI n), .ref c]) (by decide +kernel) rfl ?_
      have gf3 : h_1 c = some (.inl (0, 12, .inl C)) := (gk1 c (by first | assumption | exact Ne.symm (by assumption) | omega)).trans hc
      refine V.iastN (j := n) hG hF (by decide +kernel) gf3 (by omega) (by decide) ?_
      obtain ⟨h_4, gh4⟩ : ∃ z : Hp, z = hset h_1 c (.inl (0, 12, .inl (upd C n x1))) := ⟨_, rfl⟩
      refine V.hp gh4 ?_
      have gk4 : ∀ q : Nat, q ≠ c → h_4 q = h_1 q := fun q hq => by rw [gh4]; exact hset_ne hq
      have gs4 : h_4 c = some (.inl (0, 12, .inl (upd C n x1))) := by rw [gh4]; exact hset_eq
      refine V.run hF [(.aload_n 0, 1, .null)] (pc' := 36) (L' := [some (.ref a), some (.int x0), some (.int x1), some (.int x2), some (.int x3), some (.int (nI n))]) (st' := [.ref a]) (by decide +kernel) rfl ?_
      have gf5 : h_4 a = some (.inr (0, [.ref d, .ref c, .ref m, .ref w, .int (nI n)])) := (gk4 a (by first | assumption | exact Ne.symm (by assumption) | omega)).trans gf2
      refine V.getf hG hF k_RX0_18 (by decide +kernel) gf5 rfl ?_
      refine V.run hF [(.iload 5, 2, .null), (.iload_n 3, 1, .null)] (pc' := 42) (L' := [some (.ref a), some (.int x0), some (.int x1), some (.int x2), some (.int x3), some (.int (nI n))]) (st' := [.int x2, .int (nI n), .ref m]) (by decide +kernel) rfl ?_
      have gf6 : h_4 m = some (.inl (0, 12, .inl M)) := (gk4 m (by first | assumption | exact Ne.symm (by assumption) | omega)).trans ((gk1 m (by first | assumption | exact Ne.symm (by assumption) | omega)).trans hm)
      refine V.iastN (j := n) hG hF (by decide +kernel) gf6 (by omega) (by decide) ?_
      obtain ⟨h_7, gh7⟩ : ∃ z : Hp, z = hset h_4 m (.inl (0, 12, .inl (upd M n x2))) := ⟨_, rfl⟩
      refine V.hp gh7 ?_
      have gk7 : ∀ q : Nat, q ≠ m → h_7 q = h_4 q := fun q hq => by rw [gh7]; exact hset_ne hq
      have gs7 : h_7 m = some (.inl (0, 12, .inl (upd M n x2))) := by rw [gh7]; exact hset_eq
      refine V.run hF [(.aload_n 0, 1, .null)] (pc' := 44) (L' := [some (.ref a), some (.int x0), some (.int x1), some (.int x2), some (.int x3), some (.int (nI n))]) (st' := [.ref a]) (by decide +kernel) rfl ?_
      have gf8 : h_7 a = some (.inr (0, [.ref d, .ref c, .ref m, .ref w, .int (nI n)])) := (gk7 a (by first | assumption | exact Ne.symm (by assumption) | omega)).trans gf5
      refine V.getf hG hF k_RX0_21 (by decide +kernel) gf8 rfl ?_
      refine V.run hF [(.iload 5, 2, .null), (.iload 4, 2, .null)] (pc' := 51) (L' := [some (.ref a), some (.int x0), some (.int x1), some (.int x2), some (.int x3), some (.int (nI n))]) (st' := [.int x3, .int (nI n), .ref w]) (by decide +kernel) rfl ?_
      have gf9 : h_7 w = some (.inl (0, 12, .inl W)) := (gk7 w (by first | assumption | exact Ne.symm (by assumption) | omega)).trans ((gk4 w (by first | assumption | exact Ne.symm (by assumption) | omega)).trans ((gk1 w (by first | assumption | exact Ne.symm (by assumption) | omega)).trans hw))
      refine V.iastN (j := n) hG hF (by decide +kernel) gf9 (by omega) (by decide) ?_
      obtain ⟨h_10, gh10⟩ : ∃ z : Hp, z = hset h_7 w (.inl (0, 12, .inl (upd W n x3))) := ⟨_, rfl⟩
      refine V.hp gh10 ?_
      have gk10 : ∀ q : Nat, q ≠ w → h_10 q = h_7 q := fun q hq => by rw [gh10]; exact hset_ne hq
      have gs10 : h_10 w = some (.inl (0, 12, .inl (upd W n x3))) := by rw [gh10]; exact hset_eq
      refine V.run hF [(.aload_n 0, 1, .null), (.iload 5, 2, .null), (.iconst 1, 1, .int 1), (.iadd, 1, .null)] (pc' := 57) (L' := [some (.ref a), some (.int x0), some (.int x1), some (.int x2), some (.int x3), some (.int (nI n))]) (st' := [.int (nI n + 1), .ref a]) (by decide +kernel) rfl ?_
      rw [nI_1 n]
      have gf11 : h_10 a = some (.inr (0, [.ref d, .ref c, .ref m, .ref w, .int (nI n)])) := (gk10 a (by first | assumption | exact Ne.symm (by assumption) | omega)).trans gf8
      refine V.putf hG hF k_RX0_24 (by decide +kernel) gf11 (fun C T N hc => by cases hc; exact ⟨rfl, .int, by decide +kernel, rfl, rfl⟩) (Nat.le_of_ble_eq_true rfl) ?_
      obtain ⟨h_12, gh12⟩ : ∃ z : Hp, z = hset h_10 a (.inr (0, [.ref d, .ref c, .ref m, .ref w, .int (nI (n + 1))])) := ⟨_, rfl⟩
      refine V.hp gh12 ?_
      have gk12 : ∀ q : Nat, q ≠ a → h_12 q = h_10 q := fun q hq => by rw [gh12]; exact hset_ne hq
      have gs12 : h_12 a = some (.inr (0, [.ref d, .ref c, .ref m, .ref w, .int (nI (n + 1))])) := by rw [gh12]; exact hset_eq
      have gf13 : h_12 d = some (.inl (0, 12, .inl (upd D n x0))) := (gk12 d (by first | assumption | exact Ne.symm (by assumption) | omega)).trans ((gk10 d (by first | assumption | exact Ne.symm (by assumption) | omega)).trans ((gk7 d (by first | assumption | exact Ne.symm (by assumption) | omega)).trans ((gk4 d (by first | assumption | exact Ne.symm (by assumption) | omega)).trans gs1)))
      have fd := gf13
      have gf14 : h_12 c = some (.inl (0, 12, .inl (upd C n x1))) := (gk12 c (by first | assumption | exact Ne.symm (by assumption) | omega)).trans ((gk10 c (by first | assumption | exact Ne.symm (by assumption) | omega)).trans ((gk7 c (by first | assumption | exact Ne.symm (by assumption) | omega)).trans gs4))
      have fc := gf14
      have gf15 : h_12 m = some (.inl (0, 12, .inl (upd M n x2))) := (gk12 m (by first | assumption | exact Ne.symm (by assumption) | omega)).trans ((gk10 m (by first | assumption | exact Ne.symm (by assumption) | omega)).trans gs7)
      have fm := gf15
      have gf16 : h_12 w = some (.inl (0, 12, .inl (upd W n x3))) := (gk12 w (by first | assumption | exact Ne.symm (by assumption) | omega)).trans gs10
      have fw := gf16
      exact V.retv hF (by decide +kernel) ⟨rfl, ⟨gs12, fd, fc, fm, fw⟩, fun q e1 e2 e3 e4 e5 => ((gk12 q e1).trans ((gk10 q e5).trans ((gk7 q e4).trans ((gk4 q e3).trans ((gk1 q e2))))))⟩
    · skip
      omega
/-- the first k rows behind i moved up by one -/
def shk (i k : Nat) (f : Nat → Int32) : Nat → Int32 := fun j => if i ≤ j ∧ j < i + k then f (j + 1) else f j
theorem shk_0 {i : Nat} {f : Nat → Int32} : shk i 0 f = f := by
  funext j
  unfold shk
  rw [if_neg (by omega)]
theorem shk_s {i k : Nat} {f : Nat → Int32} : upd (shk i k f) (i + k) (f (i + k + 1)) = shk i (k + 1) f := by
  funext j
  unfold upd shk
  by_cases h : j = i + k
  · subst h
    rw [if_pos rfl, if_pos (by omega)]
  · rw [if_neg h]
    by_cases h2 : i ≤ j ∧ j < i + k
    · rw [if_pos h2, if_pos (by omega)]
    · rw [if_neg h2, if_neg (by omega)]
theorem shk_n {i k j : Nat} {f : Nat → Int32} (h : i + k ≤ j) : shk i k f j = f j := by
  unfold shk
  rw [if_neg (by omega)]
set_option maxHeartbeats 4000000 in
theorem c_X0_takeOut (hG : GOk G) (hL : LLc h a d c m w D C M W n) (hnd : nd4 d c m w) (hn : n ≤ 12) {i : Nat} (hi : i < n) :
    Ct G yX0_takeOut (.code yX0_takeOut cX0_takeOut 4 none) 1 25 0 0 [.ref a, .int (nI i)] h (is_v fun h' => LLc h' a d c m w (shk i (n - 1 - i) D) (shk i (n - 1 - i) C) (shk i (n - 1 - i) M) (shk i (n - 1 - i) W) (n - 1) ∧ kp5 h h' a d c m w) pxN := by
  refine Ct.of (by decide +kernel) (Nat.le_of_ble_eq_true rfl) fun F hF hT hN hRm => ?_
  obtain ⟨⟨na1, na2, na3, na4⟩, n1, n2, n3, n4, n5, n6⟩ := hL.nd hnd
  obtain ⟨hA, hd, hc, hm, hw⟩ := hL
  have loop : ∀ k, k ≤ n - 1 - i → ∀ h1 : Hp, LLc h1 a d c m w (shk i k D) (shk i k C) (shk i k M) (shk i k W) (i + k) → kp5 h h1 a d c m w → V G F (fin G F (is_v fun h' => LLc h' a d c m w (shk i (n - 1 - i) D) (shk i (n - 1 - i) C) (shk i (n - 1 - i) M) (shk i (n - 1 - i) W) (n - 1) ∧ kp5 h h' a d c m w) pxN) 0 0 14 [some (.ref a), some (.int (nI i)), some (.int (nI n)), some (.int (nI (i + 1 + k)))] [] h1 := by
    refine lp_up _ fun k hk ih => ?_
    intro h1 hL1 hkp
    obtain ⟨gA, gd, gc, gm, gw⟩ := id hL1
    refine V.run hF [(.iload_n 3, 1, .null), (.iload_n 2, 1, .null)] (pc' := 16) (L' := [some (.ref a), some (.int (nI i)), some (.int (nI n)), some (.int (nI (i + 1 + k)))]) (st' := [.int (nI n), .int (nI (i + 1 + k))]) (by decide +kernel) rfl ?_
    refine V.icmpN_ge (i := i + 1 + k) (j := n) hF (off := 37) (tgt := 53) (by decide +kernel) (by decide) (by omega) (by omega) (fun c1 => ?_) (fun c1 => ?_)
    · obtain rfl : k = n - 1 - i := by omega
      rw [show i + (n - 1 - i) = n - 1 by omega] at hL1
      exact V.retv hF (by decide +kernel) ⟨rfl, hL1, hkp⟩
    · skip
      refine V.run hF [(.aload_n 0, 1, .null), (.aload_n 0, 1, .null)] (pc' := 21) (L' := [some (.ref a), some (.int (nI i)), some (.int (nI n)), some (.int (nI (i + 1 + k)))]) (st' := [.ref a, .ref a]) (by decide +kernel) rfl ?_
      refine V.getf hG hF k_RX0_9 (by decide +kernel) gA rfl ?_
      refine V.run hF [(.iload_n 3, 1, .null)] (pc' := 25) (L' := [some (.ref a), some (.int (nI i)), some (.int (nI n)), some (.int (nI (i + 1 + k)))]) (st' := [.int (nI (i + 1 + k)), .ref d, .ref a]) (by decide +kernel) rfl ?_
      refine V.ialdN (j := i + 1 + k) hG hF (by decide +kernel) gd (by omega) (by decide) ?_
      refine V.run hF [(.aload_n 0, 1, .null)] (pc' := 27) (L' := [some (.ref a), some (.int (nI i)), some (.int (nI n)), some (.int (nI (i + 1 + k)))]) (st' := [.ref a, .int ((shk i k D) (i + 1 + k)), .ref a]) (by decide +kernel) rfl ?_
      refine V.getf hG hF k_RX0_15 (by decide +kernel) gA rfl ?_
      refine V.run hF [(.iload_n 3, 1, .null)] (pc' := 31) (L' := [some (.ref a), some (.int (nI i)), some (.int (nI n)), some (.int (nI (i + 1 + k)))]) (st' := [.int (nI (i + 1 + k)), .ref c, .int ((shk i k D) (i + 1 + k)), .ref a]) (by decide +kernel) rfl ?_
      refine V.ialdN (j := i + 1 + k) hG hF (by decide +kernel) gc (by omega) (by decide) ?_
      refine V.run hF [(.aload_n 0, 1, .null)] (pc' := 33) (L' := [some (.ref a), some (.int (nI i)), some (.int (nI n)), some (.int (nI (i + 1 + k)))]) (st' := [.ref a, .int ((shk i k C) (i + 1 + k)), .int ((shk i k D) (i + 1 + k)), .ref a]) (by decide +kernel) rfl ?_
      refine V.getf hG hF k_RX0_18 (by decide +kernel) gA rfl ?_
      refine V.run hF [(.iload_n 3, 1, .null)] (pc' := 37) (L' := [some (.ref a), some (.int (nI i)), some (.int (nI n)), some (.int (nI (i + 1 + k)))]) (st' := [.int (nI (i + 1 + k)), .ref m, .int ((shk i k C) (i + 1 + k)), .int ((shk i k D) (i + 1 + k)), .ref a]) (by decide +kernel) rfl ?_
      refine V.ialdN (j := i + 1 + k) hG hF (by decide +kernel) gm (by omega) (by decide) ?_
      refine V.run hF [(.aload_n 0, 1, .null)] (pc' := 39) (L' := [some (.ref a), some (.int (nI i)), some (.int (nI n)), some (.int (nI (i + 1 + k)))]) (st' := [.ref a, .int ((shk i k M) (i + 1 + k)), .int ((shk i k C) (i + 1 + k)), .int ((shk i k D) (i + 1 + k)), .ref a]) (by decide +kernel) rfl ?_
      refine V.getf hG hF k_RX0_21 (by decide +kernel) gA rfl ?_
      refine V.run hF [(.iload_n 3, 1, .null)] (pc' := 43) (L' := [some (.ref a), some (.int (nI i)), some (.int (nI n)), some (.int (nI (i + 1 + k)))]) (st' := [.int (nI (i + 1 + k)), .ref w, .int ((shk i k M) (i + 1 + k)), .int ((shk i k C) (i + 1 + k)), .int ((shk i k D) (i + 1 + k)), .ref a]) (by decide +kernel) rfl ?_
      refine V.ialdN (j := i + 1 + k) hG hF (by decide +kernel) gw (by omega) (by decide) ?_
      refine V.callV (As := [.int ((shk i k D) (i + 1 + k)), .int ((shk i k C) (i + 1 + k)), .int ((shk i k M) (i + 1 + k)), .int ((shk i k W) (i + 1 + k))]) (st := []) hG hF k_RX0_28 (by decide +kernel) (c_X0_append hG hL1 hnd (by omega) _ _ _ _) gA rfl rfl ⟨by rw [hRm]; decide, by rw [hRm]; decide⟩ (Nat.le_of_ble_eq_true rfl) rfl (fun v h_1 gp1 => ?_) (fun E h9 hx => hx.elim)
      obtain ⟨rfl, hL2, hk2⟩ := gp1
      show V G F _ _ _ 47 [some (.ref a), some (.int (nI i)), some (.int (nI n)), some (.int (nI (i + 1 + k)))] [] h_1
      refine V.run hF [(.iinc 3 1, 3, .int 1), (.goto (-36), 3, .null)] (pc' := 14) (L' := [some (.ref a), some (.int (nI i)), some (.int (nI n)), some (.int ((nI (i + 1 + k)) + 1))]) (st' := []) (by decide +kernel) rfl ?_
      rw [nI_1 (i + 1 + k)]
      rw [shk_n (by omega), shk_n (by omega), shk_n (by omega), shk_n (by omega), show i + 1 + k = i + k + 1 by omega, shk_s, shk_s, shk_s, shk_s] at hL2
      exact ih (by omega) _ hL2 (hkp.tr hk2)
  refine V.run hF [(.aload_n 0, 1, .null)] (pc' := 1) (L' := [some (.ref a), some (.int (nI i)), none, none]) (st' := [.ref a]) (by decide +kernel) rfl ?_
  refine V.getf hG hF k_RX0_24 (by decide +kernel) hA rfl ?_
  refine V.run hF [(.istore_n 2, 1, .null), (.aload_n 0, 1, .null), (.iload_n 1, 1, .null)] (pc' := 7) (L' := [some (.ref a), some (.int (nI i)), some (.int (nI n)), none]) (st' := [.int (nI i), .ref a]) (by decide +kernel) rfl ?_
  refine V.putf hG hF k_RX0_24 (by decide +kernel) hA (fun C T N hc => by cases hc; exact ⟨rfl, .int, by decide +kernel, rfl, rfl⟩) (Nat.le_of_ble_eq_true rfl) ?_
  obtain ⟨h_2, gh2⟩ : ∃ z : Hp, z = hset h a (.inr (0, [.ref d, .ref c, .ref m, .ref w, .int (nI i)])) := ⟨_, rfl⟩
  refine V.hp gh2 ?_
  have gk2 : ∀ q : Nat, q ≠ a → h_2 q = h q := fun q hq => by rw [gh2]; exact hset_ne hq
  have gs2 : h_2 a = some (.inr (0, [.ref d, .ref c, .ref m, .ref w, .int (nI i)])) := by rw [gh2]; exact hset_eq
  refine V.run hF [(.iload_n 1, 1, .null), (.iconst 1, 1, .int 1), (.iadd, 1, .null), (.istore_n 3, 1, .null)] (pc' := 14) (L' := [some (.ref a), some (.int (nI i)), some (.int (nI n)), some (.int (nI i + 1))]) (st' := []) (by decide +kernel) rfl ?_
  rw [nI_1 i]
  refine loop 0 (Nat.zero_le _) _ ?_ (fun q e1 _ _ _ _ => gk2 q e1)
  rw [shk_0, shk_0, shk_0, shk_0]
  exact ⟨gs2, (gk2 _ (Ne.symm na1)).trans hd, (gk2 _ (Ne.symm na2)).trans hc, (gk2 _ (Ne.symm na3)).trans hm, (gk2 _ (Ne.symm na4)).trans hw⟩
/-- the first k rows of g, then f's -/
def mxk (k : Nat) (g f : Nat → Int32) : Nat → Int32 := fun j => if j < k then g j else f j
theorem mxk_0 {g f : Nat → Int32} : mxk 0 g f = f := by
  funext j
  unfold mxk
  rw [if_neg (by omega)]
theorem mxk_s {k : Nat} {g f : Nat → Int32} : upd (mxk k g f) k (g k) = mxk (k + 1) g f := by
  funext j
  unfold upd mxk
  by_cases h : j = k
  · subst h
    rw [if_pos rfl, if_pos (by omega)]
  · rw [if_neg h]
    by_cases h2 : j < k
    · rw [if_pos h2, if_pos (by omega)]
    · rw [if_neg h2, if_neg (by omega)]
def dj5 (b e f g k a d c m w : Nat) : Prop := ∀ x ∈ [b, e, f, g, k], ∀ y ∈ [a, d, c, m, w], x ≠ y
theorem kp5.LL {h h' : Hp} {a d c m w b e f g k n : Nat} {D C M W : Nat → Int32} (hk : kp5 h h' a d c m w) (hj : dj5 b e f g k a d c m w) (hL : LLc h b e f g k D C M W n) : LLc h' b e f g k D C M W n := by
  obtain ⟨h1, h2, h3, h4, h5⟩ := hL
  refine ⟨(hk b ?_ ?_ ?_ ?_ ?_).trans h1, (hk e ?_ ?_ ?_ ?_ ?_).trans h2, (hk f ?_ ?_ ?_ ?_ ?_).trans h3, (hk g ?_ ?_ ?_ ?_ ?_).trans h4, (hk k ?_ ?_ ?_ ?_ ?_).trans h5⟩ <;> exact hj _ (by simp) _ (by simp)
set_option maxHeartbeats 4000000 in
theorem c_X0_become (hG : GOk G) (hL : LLc h a d c m w D C M W n) (hnd : nd4 d c m w) {b e f g k n2 : Nat} {D2 C2 M2 W2 : Nat → Int32} (hB : LLc h b e f g k D2 C2 M2 W2 n2) (hj : dj5 b e f g k a d c m w) (hn : n2 ≤ 12) :
    Ct G yX0_become (.code yX0_become cX0_become 3 none) 1 25 0 0 [.ref a, .ref b] h (is_v fun h' => LLc h' a d c m w (mxk n2 D2 D) (mxk n2 C2 C) (mxk n2 M2 M) (mxk n2 W2 W) n2 ∧ kp5 h h' a d c m w) pxN := by
  refine Ct.of (by decide +kernel) (Nat.le_of_ble_eq_true rfl) fun F hF hT hN hRm => ?_
  obtain ⟨⟨na1, na2, na3, na4⟩, n1, n2', n3, n4, n5, n6⟩ := hL.nd hnd
  obtain ⟨hA, hd, hc, hm, hw⟩ := hL
  have loop : ∀ i, i ≤ n2 → ∀ h1 : Hp, LLc h1 a d c m w (mxk i D2 D) (mxk i C2 C) (mxk i M2 M) (mxk i W2 W) i → kp5 h h1 a d c m w → V G F (fin G F (is_v fun h' => LLc h' a d c m w (mxk n2 D2 D) (mxk n2 C2 C) (mxk n2 M2 M) (mxk n2 W2 W) n2 ∧ kp5 h h' a d c m w) pxN) 0 0 7 [some (.ref a), some (.ref b), some (.int (nI i))] [] h1 := by
    refine lp_up _ fun i hi ih => ?_
    intro h1 hL1 hkp
    obtain ⟨gb, ge, gf, gg, gk⟩ := hkp.LL hj hB
    obtain ⟨gA, gd, gc, gm, gw⟩ := id hL1
    refine V.run hF [(.iload_n 2, 1, .null), (.aload_n 1, 1, .null)] (pc' := 9) (L' := [some (.ref a), some (.ref b), some (.int (nI i))]) (st' := [.ref b, .int (nI i)]) (by decide +kernel) rfl ?_
    refine V.getf hG hF k_RX0_24 (by decide +kernel) gb rfl ?_
    refine V.icmpN_ge (i := i) (j := n2) hF (off := 37) (tgt := 49) (by decide +kernel) (by decide) (by omega) (by omega) (fun c1 => ?_) (fun c1 => ?_)
    · obtain rfl : i = n2 := by omega
      exact V.retv hF (by decide +kernel) ⟨rfl, hL1, hkp⟩
    · skip
      refine V.run hF [(.aload_n 0, 1, .null), (.aload_n 1, 1, .null)] (pc' := 17) (L' := [some (.ref a), some (.ref b), some (.int (nI i))]) (st' := [.ref b, .ref a]) (by decide +kernel) rfl ?_
      refine V.getf hG hF k_RX0_9 (by decide +kernel) gb rfl ?_
      refine V.run hF [(.iload_n 2, 1, .null)] (pc' := 21) (L' := [some (.ref a), some (.ref b), some (.int (nI i))]) (st' := [.int (nI i), .ref e, .ref a]) (by decide +kernel) rfl ?_
      refine V.ialdN (j := i) hG hF (by decide +kernel) ge (by omega) (by decide) ?_
      refine V.run hF [(.aload_n 1, 1, .null)] (pc' := 23) (L' := [some (.ref a), some (.ref b), some (.int (nI i))]) (st' := [.ref b, .int (D2 i), .ref a]) (by decide +kernel) rfl ?_
      refine V.getf hG hF k_RX0_15 (by decide +kernel) gb rfl ?_
      refine V.run hF [(.iload_n 2, 1, .null)] (pc' := 27) (L' := [some (.ref a), some (.ref b), some (.int (nI i))]) (st' := [.int (nI i), .ref f, .int (D2 i), .ref a]) (by decide +kernel) rfl ?_
      refine V.ialdN (j := i) hG hF (by decide +kernel) gf (by omega) (by decide) ?_
      refine V.run hF [(.aload_n 1, 1, .null)] (pc' := 29) (L' := [some (.ref a), some (.ref b), some (.int (nI i))]) (st' := [.ref b, .int (C2 i), .int (D2 i), .ref a]) (by decide +kernel) rfl ?_
      refine V.getf hG hF k_RX0_18 (by decide +kernel) gb rfl ?_
      refine V.run hF [(.iload_n 2, 1, .null)] (pc' := 33) (L' := [some (.ref a), some (.ref b), some (.int (nI i))]) (st' := [.int (nI i), .ref g, .int (C2 i), .int (D2 i), .ref a]) (by decide +kernel) rfl ?_
      refine V.ialdN (j := i) hG hF (by decide +kernel) gg (by omega) (by decide) ?_
      refine V.run hF [(.aload_n 1, 1, .null)] (pc' := 35) (L' := [some (.ref a), some (.ref b), some (.int (nI i))]) (st' := [.ref b, .int (M2 i), .int (C2 i), .int (D2 i), .ref a]) (by decide +kernel) rfl ?_
      refine V.getf hG hF k_RX0_21 (by decide +kernel) gb rfl ?_
      refine V.run hF [(.iload_n 2, 1, .null)] (pc' := 39) (L' := [some (.ref a), some (.ref b), some (.int (nI i))]) (st' := [.int (nI i), .ref k, .int (M2 i), .int (C2 i), .int (D2 i), .ref a]) (by decide +kernel) rfl ?_
      refine V.ialdN (j := i) hG hF (by decide +kernel) gk (by omega) (by decide) ?_
      refine V.callV (As := [.int (D2 i), .int (C2 i), .int (M2 i), .int (W2 i)]) (st := []) hG hF k_RX0_28 (by decide +kernel) (c_X0_append hG hL1 hnd (by omega) _ _ _ _) gA rfl rfl ⟨by rw [hRm]; decide, by rw [hRm]; decide⟩ (Nat.le_of_ble_eq_true rfl) rfl (fun v h_1 gp1 => ?_) (fun E h9 hx => hx.elim)
      obtain ⟨rfl, hL2, hk2⟩ := gp1
      show V G F _ _ _ 43 [some (.ref a), some (.ref b), some (.int (nI i))] [] h_1
      refine V.run hF [(.iinc 2 1, 3, .int 1), (.goto (-39), 3, .null)] (pc' := 7) (L' := [some (.ref a), some (.ref b), some (.int ((nI i) + 1))]) (st' := []) (by decide +kernel) rfl ?_
      rw [nI_1 i]
      rw [mxk_s, mxk_s, mxk_s, mxk_s] at hL2
      exact ih (by omega) _ hL2 (hkp.tr hk2)
  refine V.run hF [(.aload_n 0, 1, .null), (.iconst 0, 1, .int 0)] (pc' := 2) (L' := [some (.ref a), some (.ref b), none]) (st' := [.int 0, .ref a]) (by decide +kernel) rfl ?_
  refine V.putf hG hF k_RX0_24 (by decide +kernel) hA (fun C T N hc => by cases hc; exact ⟨rfl, .int, by decide +kernel, rfl, rfl⟩) (Nat.le_of_ble_eq_true rfl) ?_
  obtain ⟨h_2, gh2⟩ : ∃ z : Hp, z = hset h a (.inr (0, [.ref d, .ref c, .ref m, .ref w, .int 0])) := ⟨_, rfl⟩
  refine V.hp gh2 ?_
  have gk2 : ∀ q : Nat, q ≠ a → h_2 q = h q := fun q hq => by rw [gh2]; exact hset_ne hq
  have gs2 : h_2 a = some (.inr (0, [.ref d, .ref c, .ref m, .ref w, .int 0])) := by rw [gh2]; exact hset_eq
  refine V.run hF [(.iconst 0, 1, .int 0), (.istore_n 2, 1, .null)] (pc' := 7) (L' := [some (.ref a), some (.ref b), some (.int 0)]) (st' := []) (by decide +kernel) rfl ?_
  refine loop 0 (Nat.zero_le _) _ ?_ (fun q e1 _ _ _ _ => gk2 q e1)
  rw [mxk_0, mxk_0, mxk_0, mxk_0]
  exact ⟨gs2, (gk2 _ (Ne.symm na1)).trans hd, (gk2 _ (Ne.symm na2)).trans hc, (gk2 _ (Ne.symm na3)).trans hm, (gk2 _ (Ne.symm na4)).trans hw⟩
set_option maxHeartbeats 4000000 in
theorem c_X0_init (hG : GOk G) (hA : h a = some (.inr (0, [.null, .null, .null, .null, .int 0]))) :
    Ct G yX0_init (.code yX0_init cX0_init 1 none) 1 12 4 48 [.ref a] h (is_v fun h' => ∃ d c m w, LLc h' a d c m w (fun _ => 0) (fun _ => 0) (fun _ => 0) (fun _ => 0) 0 ∧ nd4 d c m w ∧ (h d = none ∧ h c = none ∧ h m = none ∧ h w = none) ∧ kp5 h h' a d c m w) pxN := by
  refine Ct.of (by decide +kernel) (Nat.le_of_ble_eq_true rfl) fun F hF hT hN hRm => ?_
  refine V.run hF [(.aload_n 0, 1, .null)] (pc' := 1) (L' := [some (.ref a)]) (st' := [.ref a]) (by decide +kernel) rfl ?_
  refine V.objInit hG hF tw_35 tw_oi1 tw_oi2 (by decide +kernel) ⟨by rw [hRm]; decide, by rw [hRm]; decide⟩ ?_
  refine V.run hF [(.aload_n 0, 1, .null), (.bipush 12, 2, .int (nI 12))] (pc' := 7) (L' := [some (.ref a)]) (st' := [.int (nI 12), .ref a]) (by decide +kernel) rfl ?_
  refine V.newa (aty := .int) (t := 0) (N := 12) (a0 := (12, .inl (fun _ => 0))) hG hF (by decide) rfl tw_arr_0.1 (by decide +kernel) (by decide) (by decide) (by decide) (fun _ => rfl) (fun d hq_d => ?_)
  have ne_a_d : a ≠ d := ne_new hA hq_d
  obtain ⟨h_1, gh1⟩ : ∃ z : Hp, z = hset h d (.inl (0, 12, .inl (fun _ => 0))) := ⟨_, rfl⟩
  refine V.hp gh1 ?_
  have gk1 : ∀ q : Nat, q ≠ d → h_1 q = h q := fun q hq => by rw [gh1]; exact hset_ne hq
  have gs1 : h_1 d = some (.inl (0, 12, .inl (fun _ => 0))) := by rw [gh1]; exact hset_eq
  have gf2 : h_1 a = some (.inr (0, [.null, .null, .null, .null, .int 0])) := (gk1 a (by first | assumption | exact Ne.symm (by assumption) | omega)).trans hA
  refine V.putF hG hF ko_RX0_9 hN (by decide +kernel) gf2 (fun C T N hc => by cases hc; exact ⟨rfl, rfl, (.array .int), by decide +kernel, rfl, rfl⟩) (Nat.le_of_ble_eq_true rfl) ?_
  obtain ⟨h_3, gh3⟩ : ∃ z : Hp, z = hset h_1 a (.inr (0, [.ref d, .null, .null, .null, .int 0])) := ⟨_, rfl⟩
  refine V.hp gh3 ?_
  have gk3 : ∀ q : Nat, q ≠ a → h_3 q = h_1 q := fun q hq => by rw [gh3]; exact hset_ne hq
  have gs3 : h_3 a = some (.inr (0, [.ref d, .null, .null, .null, .int 0])) := by rw [gh3]; exact hset_eq
  refine V.run hF [(.aload_n 0, 1, .null), (.bipush 12, 2, .int (nI 12))] (pc' := 15) (L' := [some (.ref a)]) (st' := [.int (nI 12), .ref a]) (by decide +kernel) rfl ?_
  have gf4 : h_3 d = some (.inl (0, 12, .inl (fun _ => 0))) := (gk3 d (by first | assumption | exact Ne.symm (by assumption) | omega)).trans gs1
  refine V.newa (aty := .int) (t := 0) (N := 12) (a0 := (12, .inl (fun _ => 0))) hG hF (by decide) rfl tw_arr_0.1 (by decide +kernel) (by decide) (by decide) (by decide) (fun _ => rfl) (fun c hq_c => ?_)
  have ne_a_c : a ≠ c := ne_new gs3 hq_c
  have ne_d_c : d ≠ c := ne_new gf4 hq_c
  obtain ⟨h_5, gh5⟩ : ∃ z : Hp, z = hset h_3 c (.inl (0, 12, .inl (fun _ => 0))) := ⟨_, rfl⟩
  refine V.hp gh5 ?_
  have gk5 : ∀ q : Nat, q ≠ c → h_5 q = h_3 q := fun q hq => by rw [gh5]; exact hset_ne hq
  have gs5 : h_5 c = some (.inl (0, 12, .inl (fun _ => 0))) := by rw [gh5]; exact hset_eq
  have gf6 : h_5 a = some (.inr (0, [.ref d, .null, .null, .null, .int 0])) := (gk5 a (by first | assumption | exact Ne.symm (by assumption) | omega)).trans gs3
  refine V.putF hG hF ko_RX0_15 hN (by decide +kernel) gf6 (fun C T N hc => by cases hc; exact ⟨rfl, rfl, (.array .int), by decide +kernel, rfl, rfl⟩) (Nat.le_of_ble_eq_true rfl) ?_
  obtain ⟨h_7, gh7⟩ : ∃ z : Hp, z = hset h_5 a (.inr (0, [.ref d, .ref c, .null, .null, .int 0])) := ⟨_, rfl⟩
  refine V.hp gh7 ?_
  have gk7 : ∀ q : Nat, q ≠ a → h_7 q = h_5 q := fun q hq => by rw [gh7]; exact hset_ne hq
  have gs7 : h_7 a = some (.inr (0, [.ref d, .ref c, .null, .null, .int 0])) := by rw [gh7]; exact hset_eq
  refine V.run hF [(.aload_n 0, 1, .null), (.bipush 12, 2, .int (nI 12))] (pc' := 23) (L' := [some (.ref a)]) (st' := [.int (nI 12), .ref a]) (by decide +kernel) rfl ?_
  have gf8 : h_7 d = some (.inl (0, 12, .inl (fun _ => 0))) := (gk7 d (by first | assumption | exact Ne.symm (by assumption) | omega)).trans ((gk5 d (by first | assumption | exact Ne.symm (by assumption) | omega)).trans gf4)
  have gf9 : h_7 c = some (.inl (0, 12, .inl (fun _ => 0))) := (gk7 c (by first | assumption | exact Ne.symm (by assumption) | omega)).trans gs5
  refine V.newa (aty := .int) (t := 0) (N := 12) (a0 := (12, .inl (fun _ => 0))) hG hF (by decide) rfl tw_arr_0.1 (by decide +kernel) (by decide) (by decide) (by decide) (fun _ => rfl) (fun m hq_m => ?_)
  have ne_a_m : a ≠ m := ne_new gs7 hq_m
  have ne_d_m : d ≠ m := ne_new gf8 hq_m
  have ne_c_m : c ≠ m := ne_new gf9 hq_m
  obtain ⟨h_10, gh10⟩ : ∃ z : Hp, z = hset h_7 m (.inl (0, 12, .inl (fun _ => 0))) := ⟨_, rfl⟩
  refine V.hp gh10 ?_
  have gk10 : ∀ q : Nat, q ≠ m → h_10 q = h_7 q := fun q hq => by rw [gh10]; exact hset_ne hq
  have gs10 : h_10 m = some (.inl (0, 12, .inl (fun _ => 0))) := by rw [gh10]; exact hset_eq
  have gf11 : h_10 a = some (.inr (0, [.ref d, .ref c, .null, .null, .int 0])) := (gk10 a (by first | assumption | exact Ne.symm (by assumption) | omega)).trans gs7
  refine V.putF hG hF ko_RX0_18 hN (by decide +kernel) gf11 (fun C T N hc => by cases hc; exact ⟨rfl, rfl, (.array .int), by decide +kernel, rfl, rfl⟩) (Nat.le_of_ble_eq_true rfl) ?_
  obtain ⟨h_12, gh12⟩ : ∃ z : Hp, z = hset h_10 a (.inr (0, [.ref d, .ref c, .ref m, .null, .int 0])) := ⟨_, rfl⟩
  refine V.hp gh12 ?_
  have gk12 : ∀ q : Nat, q ≠ a → h_12 q = h_10 q := fun q hq => by rw [gh12]; exact hset_ne hq
  have gs12 : h_12 a = some (.inr (0, [.ref d, .ref c, .ref m, .null, .int 0])) := by rw [gh12]; exact hset_eq
  refine V.run hF [(.aload_n 0, 1, .null), (.bipush 12, 2, .int (nI 12))] (pc' := 31) (L' := [some (.ref a)]) (st' := [.int (nI 12), .ref a]) (by decide +kernel) rfl ?_
  have gf13 : h_12 d = some (.inl (0, 12, .inl (fun _ => 0))) := (gk12 d (by first | assumption | exact Ne.symm (by assumption) | omega)).trans ((gk10 d (by first | assumption | exact Ne.symm (by assumption) | omega)).trans gf8)
  have gf14 : h_12 c = some (.inl (0, 12, .inl (fun _ => 0))) := (gk12 c (by first | assumption | exact Ne.symm (by assumption) | omega)).trans ((gk10 c (by first | assumption | exact Ne.symm (by assumption) | omega)).trans gf9)
  have gf15 : h_12 m = some (.inl (0, 12, .inl (fun _ => 0))) := (gk12 m (by first | assumption | exact Ne.symm (by assumption) | omega)).trans gs10
  refine V.newa (aty := .int) (t := 0) (N := 12) (a0 := (12, .inl (fun _ => 0))) hG hF (by decide) rfl tw_arr_0.1 (by decide +kernel) (by decide) (by decide) (by decide) (fun _ => rfl) (fun w hq_w => ?_)
  have ne_a_w : a ≠ w := ne_new gs12 hq_w
  have ne_d_w : d ≠ w := ne_new gf13 hq_w
  have ne_c_w : c ≠ w := ne_new gf14 hq_w
  have ne_m_w : m ≠ w := ne_new gf15 hq_w
  obtain ⟨h_16, gh16⟩ : ∃ z : Hp, z = hset h_12 w (.inl (0, 12, .inl (fun _ => 0))) := ⟨_, rfl⟩
  refine V.hp gh16 ?_
  have gk16 : ∀ q : Nat, q ≠ w → h_16 q = h_12 q := fun q hq => by rw [gh16]; exact hset_ne hq
  have gs16 : h_16 w = some (.inl (0, 12, .inl (fun _ => 0))) := by rw [gh16]; exact hset_eq
  have gf17 : h_16 a = some (.inr (0, [.ref d, .ref c, .ref m, .null, .int 0])) := (gk16 a (by first | assumption | exact Ne.symm (by assumption) | omega)).trans gs12
  refine V.putF hG hF ko_RX0_21 hN (by decide +kernel) gf17 (fun C T N hc => by cases hc; exact ⟨rfl, rfl, (.array .int), by decide +kernel, rfl, rfl⟩) (Nat.le_of_ble_eq_true rfl) ?_
  obtain ⟨h_18, gh18⟩ : ∃ z : Hp, z = hset h_16 a (.inr (0, [.ref d, .ref c, .ref m, .ref w, .int 0])) := ⟨_, rfl⟩
  refine V.hp gh18 ?_
  have gk18 : ∀ q : Nat, q ≠ a → h_18 q = h_16 q := fun q hq => by rw [gh18]; exact hset_ne hq
  have gs18 : h_18 a = some (.inr (0, [.ref d, .ref c, .ref m, .ref w, .int 0])) := by rw [gh18]; exact hset_eq
  have gf19 : h_18 d = some (.inl (0, 12, .inl (fun _ => 0))) := (gk18 d (by first | assumption | exact Ne.symm (by assumption) | omega)).trans ((gk16 d (by first | assumption | exact Ne.symm (by assumption) | omega)).trans gf13)
  have ed := gf19
  have gf20 : h_18 c = some (.inl (0, 12, .inl (fun _ => 0))) := (gk18 c (by first | assumption | exact Ne.symm (by assumption) | omega)).trans ((gk16 c (by first | assumption | exact Ne.symm (by assumption) | omega)).trans gf14)
  have ec := gf20
  have gf21 : h_18 m = some (.inl (0, 12, .inl (fun _ => 0))) := (gk18 m (by first | assumption | exact Ne.symm (by assumption) | omega)).trans ((gk16 m (by first | assumption | exact Ne.symm (by assumption) | omega)).trans gf15)
  have em := gf21
  have gf22 : h_18 w = some (.inl (0, 12, .inl (fun _ => 0))) := (gk18 w (by first | assumption | exact Ne.symm (by assumption) | omega)).trans gs16
  have ew := gf22
  have hc0 : h c = none := by rw [← gk1 c (Ne.symm ne_d_c), ← gk3 c (Ne.symm ne_a_c)]; exact hq_c
  have hm0 : h m = none := by rw [← gk1 m (Ne.symm ne_d_m), ← gk3 m (Ne.symm ne_a_m), ← gk5 m (Ne.symm ne_c_m), ← gk7 m (Ne.symm ne_a_m)]; exact hq_m
  have hw0 : h w = none := by rw [← gk1 w (Ne.symm ne_d_w), ← gk3 w (Ne.symm ne_a_w), ← gk5 w (Ne.symm ne_c_w), ← gk7 w (Ne.symm ne_a_w), ← gk10 w (Ne.symm ne_m_w), ← gk12 w (Ne.symm ne_a_w)]; exact hq_w
  exact V.retv hF (by decide +kernel) ⟨rfl, d, c, m, w, ⟨gs18, ed, ec, em, ew⟩, ⟨ne_d_c, ne_d_m, ne_d_w, ne_c_m, ne_c_w, ne_m_w⟩, ⟨hq_d, hc0, hm0, hw0⟩, fun q e1 e2 e3 e4 e5 => ((gk18 q e1).trans ((gk16 q e5).trans ((gk12 q e1).trans ((gk10 q e4).trans ((gk7 q e1).trans ((gk5 q e3).trans ((gk3 q e1).trans ((gk1 q e2)))))))))⟩
end LLw
end
section
/-! ===== Tablet, Smoothing ===== -/
section Ext
variable {G : Gt} {F : Ft} {Q : State → Prop} {kc ks pc : Nat} {L : List (Option Value)} {st : List Value} {h : Hp}
/-- an int array's contents may be told by any function that agrees with it within its length -/
theorem V.extI {a n k : Nat} {f g : Nat → Int32} (hc : h a = some (.inl (k, n, .inl f))) (hfg : ∀ j, j < n → f j = g j) (kk : V G F Q kc ks pc L st (hset h a (.inl (k, n, .inl g)))) : V G F Q kc ks pc L st h := by
  intro H locs ls cells slots hR hS hL hz h1 h2
  refine kk H locs ls cells slots ?_ hS hL hz h1 h2
  refine hR.store (hR a _ hc).1 ?_ (fun q _ => rfl)
  have e : H[a]? = some (arrV (gA G k) n (fun j => .int (f j))) := (hR a _ hc).2
  show H[a]? = some (arrV (gA G k) n (fun j => .int (g j)))
  rw [e]
  congr 1
  unfold arrV
  congr 1
  apply Array.ext
  · simp
  · intro i h1 h2
    simp at h1
    simp [hfg i h1]
end Ext
abbrev tf (b : Prop) [Decidable b] : Int32 := if b then 1 else 0
section Tb
variable {G : Gt} {h : Hp} {a : Nat}
set_option maxHeartbeats 4000000 in
theorem c_X2_meltsAt (hG : GOk G) {hd ce x : Int32} {l : Nat} (hA : h a = some (.inr (2, [.int hd, .int ce, .ref l]))) :
    Ct G yX2_meltsAt (.code yX2_meltsAt cX2_meltsAt 2 (some .boolean)) 0 0 0 0 [.ref a, .int x] h (is_i (tf (ce = 0 ∧ hd < x)) h) pxN := by
  refine Ct.of (by decide +kernel) (Nat.le_of_ble_eq_true rfl) fun F hF hT hN hRm => ?_
  refine V.run hF [(.aload_n 0, 1, .null)] (pc' := 1) (L' := [some (.ref a), some (.int x)]) (st' := [.ref a]) (by decide +kernel) rfl ?_
  refine V.getf hG hF k_RX2_20 (by decide +kernel) hA rfl ?_
  refine V.if_ne hF (off := 15) (tgt := 19) (by decide +kernel) (by decide) (fun c1 => ?_) (fun c1 => ?_)
  · skip
    refine V.run hF [(.iconst 0, 1, .int 0)] (pc' := 20) (L' := [some (.ref a), some (.int x)]) (st' := [.int 0]) (by decide +kernel) rfl ?_
    exact V.retz hF (by decide +kernel) rfl ⟨by rw [tf, if_neg (fun q => c1 q.1)], rfl⟩
  · skip
    refine V.run hF [(.aload_n 0, 1, .null)] (pc' := 8) (L' := [some (.ref a), some (.int x)]) (st' := [.ref a]) (by decide +kernel) rfl ?_
    refine V.getf hG hF k_RX2_16 (by decide +kernel) hA rfl ?_
    refine V.run hF [(.iload_n 1, 1, .null)] (pc' := 12) (L' := [some (.ref a), some (.int x)]) (st' := [.int x, .int hd]) (by decide +kernel) rfl ?_
    refine V.icmp_ge hF (off := 7) (tgt := 19) (by decide +kernel) (by decide) (fun c2 => ?_) (fun c2 => ?_)
    · skip
      refine V.run hF [(.iconst 0, 1, .int 0)] (pc' := 20) (L' := [some (.ref a), some (.int x)]) (st' := [.int 0]) (by decide +kernel) rfl ?_
      exact V.retz hF (by decide +kernel) rfl ⟨by rw [tf, if_neg (fun q => absurd q.2 (Int32.not_lt.mpr c2))], rfl⟩
    · skip
      refine V.run hF [(.iconst 1, 1, .int 1), (.goto 4, 3, .null)] (pc' := 20) (L' := [some (.ref a), some (.int x)]) (st' := [.int 1]) (by decide +kernel) rfl ?_
      exact V.retz hF (by decide +kernel) rfl ⟨by rw [tf, if_pos ⟨c1, Int32.not_le.mp c2⟩], rfl⟩
set_option maxHeartbeats 4000000 in
theorem c_X2_init (hG : GOk G) {x : Int32} (hA : h a = some (.inr (2, [.int 0, .int 0, .null]))) :
    Ct G yX2_init (.code yX2_init cX2_init 2 none) 2 32 5 53 [.ref a, .int x] h (is_v fun h' => ∃ l d c m w, h' a = some (.inr (2, [.int x, .int 0, .ref l])) ∧ LLc h' l d c m w (fun _ => 0) (fun _ => 0) (fun _ => 0) (fun _ => 0) 0 ∧ nd4 d c m w ∧ (h l = none ∧ h d = none ∧ h c = none ∧ h m = none ∧ h w = none) ∧ (∀ q, q ≠ a → q ≠ l → q ≠ d → q ≠ c → q ≠ m → q ≠ w → h' q = h q)) pxN := by
  refine Ct.of (by decide +kernel) (Nat.le_of_ble_eq_true rfl) fun F hF hT hN hRm => ?_
  refine V.run hF [(.aload_n 0, 1, .null)] (pc' := 1) (L' := [some (.ref a), some (.int x)]) (st' := [.ref a]) (by decide +kernel) rfl ?_
  refine V.objInit hG hF tw_475 tw_oi1 tw_oi2 (by decide +kernel) ⟨by rw [hRm]; decide, by rw [hRm]; decide⟩ ?_
  refine V.run hF [(.aload_n 0, 1, .null)] (pc' := 5) (L' := [some (.ref a), some (.int x)]) (st' := [.ref a]) (by decide +kernel) rfl ?_
  refine V.new hG hF k_RX2_7 (by decide +kernel) (fun l hq_l => ?_)
  have ne_a_l : a ≠ l := ne_new hA hq_l
  obtain ⟨h_1, gh1⟩ : ∃ z : Hp, z = hset h l (.inr (0, [.null, .null, .null, .null, .int 0])) := ⟨_, rfl⟩
  refine V.hp gh1 ?_
  have gk1 : ∀ q : Nat, q ≠ l → h_1 q = h q := fun q hq => by rw [gh1]; exact hset_ne hq
  have gs1 : h_1 l = some (.inr (0, [.null, .null, .null, .null, .int 0])) := by rw [gh1]; exact hset_eq
  refine V.run hF [(.dup, 1, .null)] (pc' := 9) (L' := [some (.ref a), some (.int x)]) (st' := [.ref l, .ref l, .ref a]) (by decide +kernel) rfl ?_
  have gf2 : h_1 a = some (.inr (2, [.int 0, .int 0, .null])) := (gk1 a (by first | assumption | exact Ne.symm (by assumption) | omega)).trans hA
  have hA1 := gf2
  have hkl := gk1
  refine V.callI (As := []) (st := [.ref l, .ref a]) hG hF k_RX2_9 (by decide +kernel) (c_X0_init hG gs1) rfl ⟨by rw [hRm]; decide, by rw [hRm]; decide⟩ (Nat.le_of_ble_eq_true rfl) rfl (fun v h_3 gp3 => ?_)
  obtain ⟨rfl, d, c, m, w, hLL, hnd, ⟨f1, f2, f3, f4⟩, hk2⟩ := gp3
  show V G F _ _ _ 12 [some (.ref a), some (.int x)] [.ref l, .ref a] h_3
  have na : a ≠ d ∧ a ≠ c ∧ a ≠ m ∧ a ≠ w := ⟨ne_new hA1 f1, ne_new hA1 f2, ne_new hA1 f3, ne_new hA1 f4⟩
  have hA2 := (hk2 a ne_a_l na.1 na.2.1 na.2.2.1 na.2.2.2).trans hA1
  have hll := hLL.nd hnd
  refine V.putF hG hF ko_RX2_10 hN (by decide +kernel) hA2 (fun C T N hc => by cases hc; exact ⟨rfl, rfl, (.object "TallyWax$LineList"), by decide +kernel, rfl, rfl⟩) (Nat.le_of_ble_eq_true rfl) ?_
  obtain ⟨h_4, gh4⟩ : ∃ z : Hp, z = hset h_3 a (.inr (2, [.int 0, .int 0, .ref l])) := ⟨_, rfl⟩
  refine V.hp gh4 ?_
  have gk4 : ∀ q : Nat, q ≠ a → h_4 q = h_3 q := fun q hq => by rw [gh4]; exact hset_ne hq
  have gs4 : h_4 a = some (.inr (2, [.int 0, .int 0, .ref l])) := by rw [gh4]; exact hset_eq
  refine V.run hF [(.aload_n 0, 1, .null), (.iload_n 1, 1, .null)] (pc' := 17) (L' := [some (.ref a), some (.int x)]) (st' := [.int x, .ref a]) (by decide +kernel) rfl ?_
  refine V.putF hG hF ko_RX2_16 hN (by decide +kernel) gs4 (fun C T N hc => by cases hc; exact ⟨rfl, rfl, .int, by decide +kernel, rfl, rfl⟩) (Nat.le_of_ble_eq_true rfl) ?_
  obtain ⟨h_5, gh5⟩ : ∃ z : Hp, z = hset h_4 a (.inr (2, [.int x, .int 0, .ref l])) := ⟨_, rfl⟩
  refine V.hp gh5 ?_
  have gk5 : ∀ q : Nat, q ≠ a → h_5 q = h_4 q := fun q hq => by rw [gh5]; exact hset_ne hq
  have gs5 : h_5 a = some (.inr (2, [.int x, .int 0, .ref l])) := by rw [gh5]; exact hset_eq
  obtain ⟨g1, g2, g3, g4, g5⟩ := hLL
  have up : ∀ q, q ≠ l → h_1 q = none → h q = none := fun q e1 e2 => by rw [← hkl q e1]; exact e2
  exact V.retv hF (by decide +kernel) ⟨rfl, l, d, c, m, w, gs5, ⟨((gk5 l (Ne.symm ne_a_l)).trans ((gk4 l (Ne.symm ne_a_l)))).trans g1, ((gk5 d (Ne.symm na.1)).trans ((gk4 d (Ne.symm na.1)))).trans g2, ((gk5 c (Ne.symm na.2.1)).trans ((gk4 c (Ne.symm na.2.1)))).trans g3, ((gk5 m (Ne.symm na.2.2.1)).trans ((gk4 m (Ne.symm na.2.2.1)))).trans g4, ((gk5 w (Ne.symm na.2.2.2)).trans ((gk4 w (Ne.symm na.2.2.2)))).trans g5⟩, hnd, ⟨hq_l, up d (Ne.symm hll.1.1) f1, up c (Ne.symm hll.1.2.1) f2, up m (Ne.symm hll.1.2.2.1) f3, up w (Ne.symm hll.1.2.2.2) f4⟩, fun q e1 e2 e3 e4 e5 e6 => (((gk5 q e1).trans ((gk4 q e1)))).trans ((hk2 q e2 e3 e4 e5 e6).trans (hkl q e2))⟩
end Tb
/-! the smoothing as numbers -/
def pmin (b : Nat → Int32) : Nat → Nat
  | 0 => 0
  | k + 1 => if b (k + 1) < b (pmin b k) then k + 1 else pmin b k
def pmax (b : Nat → Int32) : Nat → Nat
  | 0 => 0
  | k + 1 => if b (pmax b k) < b (k + 1) then k + 1 else pmax b k
theorem pmin_le (b : Nat → Int32) : ∀ k, pmin b k ≤ k
  | 0 => Nat.le_refl _
  | k + 1 => by
    unfold pmin
    split
    · exact Nat.le_refl _
    · exact Nat.le_succ_of_le (pmin_le b k)
theorem pmax_le (b : Nat → Int32) : ∀ k, pmax b k ≤ k
  | 0 => Nat.le_refl _
  | k + 1 => by
    unfold pmax
    split
    · exact Nat.le_refl _
    · exact Nat.le_succ_of_le (pmax_le b k)
/-- the first person that is there and neither of both, from i on, f persons -/
def wf (th : Nat → Int32) (d c : Nat) : Nat → Nat → Option Nat
  | 0, _ => none
  | f + 1, i => if ¬ th i = 0 ∧ ¬ i = d ∧ ¬ i = c then some i else wf th d c f (i + 1)
def on (r : Option Nat) : Int32 := match r with
  | none => -1
  | some p => nI p
theorem wf_lt {th : Nat → Int32} {d c p : Nat} : ∀ {f i : Nat}, wf th d c f i = some p → p < i + f
  | 0, _, h => by cases h
  | f + 1, i, h => by
    unfold wf at h
    split at h
    · cases h; omega
    · have := wf_lt h; omega
abbrev PS : Type := (Nat → Int32) × (Nat → Int32) × (Nat → Int32) × (Nat → Int32) × (Nat → Int32) × Nat
abbrev pB (s : PS) : Nat → Int32 := s.1
abbrev pD (s : PS) : Nat → Int32 := s.2.1
abbrev pC (s : PS) : Nat → Int32 := s.2.2.1
abbrev pM (s : PS) : Nat → Int32 := s.2.2.2.1
abbrev pW (s : PS) : Nat → Int32 := s.2.2.2.2.1
abbrev pn (s : PS) : Nat := s.2.2.2.2.2
def pamt (b : Nat → Int32) (d c : Nat) : Int32 := if b c < -b d then b c else -b d
def pb2 (b : Nat → Int32) (d c : Nat) : Nat → Int32 := upd (upd b d (b d + pamt b d c)) c (upd b d (b d + pamt b d c) c - pamt b d c)
def pstp (s : PS) (d c w : Nat) : PS := (pb2 (pB s) d c, upd (pD s) (pn s) (nI d), upd (pC s) (pn s) (nI c), upd (pM s) (pn s) (pamt (pB s) d c), upd (pW s) (pn s) (nI w), pn s + 1)
def pl (th : Nat → Int32) : Nat → PS → Bool × PS
  | 0, s => (true, s)
  | f + 1, s => if pB s (pmin (pB s) 7) < 0 then (match wf th (pmin (pB s) 7) (pmax (pB s) 7) 8 0 with
    | none => (false, s)
    | some w => pl th f (pstp s (pmin (pB s) 7) (pmax (pB s) 7) w)) else (true, s)
def SMc (h : Hp) (s ba nl nd nc nm nw : Nat) (P : PS) : Prop := h s = some (.inr (1, [.ref ba, .ref nl])) ∧ h ba = some (.inl (0, 8, .inl (pB P))) ∧ LLc h nl nd nc nm nw (pD P) (pC P) (pM P) (pW P) (pn P)
def kp6 (h h' : Hp) (ba nl nd nc nm nw : Nat) : Prop := ∀ q : Nat, q ≠ ba → q ≠ nl → q ≠ nd → q ≠ nc → q ≠ nm → q ≠ nw → h' q = h q
theorem kp6.rf {h : Hp} {ba nl nd nc nm nw : Nat} : kp6 h h ba nl nd nc nm nw := fun _ _ _ _ _ _ _ => rfl
theorem kp6.tr {h h1 h2 : Hp} {ba nl nd nc nm nw : Nat} (p : kp6 h h1 ba nl nd nc nm nw) (q : kp6 h1 h2 ba nl nd nc nm nw) : kp6 h h2 ba nl nd nc nm nw := fun x e1 e2 e3 e4 e5 e6 => (q x e1 e2 e3 e4 e5 e6).trans (p x e1 e2 e3 e4 e5 e6)
section Sm
variable {G : Gt} {h : Hp} {s ba nl nd nc nm nw t : Nat} {b th : Nat → Int32} {P : PS}
set_option maxHeartbeats 4000000 in
theorem c_X1_poorest (hG : GOk G) (hA : h s = some (.inr (1, [.ref ba, .ref nl]))) (hb : h ba = some (.inl (0, 8, .inl b))) :
    Ct G yX1_poorest (.code yX1_poorest cX1_poorest 3 (some .int)) 0 0 0 0 [.ref s] h (is_i (nI (pmin b 7)) h) pxN := by
  refine Ct.of (by decide +kernel) (Nat.le_of_ble_eq_true rfl) fun F hF hT hN hRm => ?_
  have loop : ∀ i, i ≤ 7 → V G F (fin G F (is_i (nI (pmin b 7)) h) pxN) 0 0 4 [some (.ref s), some (.int (nI (pmin b i))), some (.int (nI (i + 1)))] [] h := by
    refine lp_up 7 fun i hi ih => ?_
    have hm := pmin_le b i
    refine V.run hF [(.iload_n 2, 1, .null), (.bipush 8, 2, .int (nI 8))] (pc' := 7) (L' := [some (.ref s), some (.int (nI (pmin b i))), some (.int (nI (i + 1)))]) (st' := [.int (nI 8), .int (nI (i + 1))]) (by decide +kernel) rfl ?_
    refine V.icmpN_ge (i := i + 1) (j := 8) hF (off := 26) (tgt := 33) (by decide +kernel) (by decide) (by omega) (by omega) (fun c1 => ?_) (fun c1 => ?_)
    · have ei : i = 7 := by omega
      refine V.run hF [(.iload_n 1, 1, .null)] (pc' := 34) (L' := [some (.ref s), some (.int (nI (pmin b i))), some (.int (nI (i + 1)))]) (st' := [.int (nI (pmin b i))]) (by decide +kernel) rfl ?_
      exact V.reti hF (by decide +kernel) ⟨by rw [ei], rfl⟩
    · skip
      refine V.run hF [(.aload_n 0, 1, .null)] (pc' := 11) (L' := [some (.ref s), some (.int (nI (pmin b i))), some (.int (nI (i + 1)))]) (st' := [.ref s]) (by decide +kernel) rfl ?_
      refine V.getf hG hF k_RX1_9 (by decide +kernel) hA rfl ?_
      refine V.run hF [(.iload_n 2, 1, .null)] (pc' := 15) (L' := [some (.ref s), some (.int (nI (pmin b i))), some (.int (nI (i + 1)))]) (st' := [.int (nI (i + 1)), .ref ba]) (by decide +kernel) rfl ?_
      refine V.ialdN (j := i + 1) hG hF (by decide +kernel) hb (by omega) (by decide) ?_
      refine V.run hF [(.aload_n 0, 1, .null)] (pc' := 17) (L' := [some (.ref s), some (.int (nI (pmin b i))), some (.int (nI (i + 1)))]) (st' := [.ref s, .int (b (i + 1))]) (by decide +kernel) rfl ?_
      refine V.getf hG hF k_RX1_9 (by decide +kernel) hA rfl ?_
      refine V.run hF [(.iload_n 1, 1, .null)] (pc' := 21) (L' := [some (.ref s), some (.int (nI (pmin b i))), some (.int (nI (i + 1)))]) (st' := [.int (nI (pmin b i)), .ref ba, .int (b (i + 1))]) (by decide +kernel) rfl ?_
      refine V.ialdN (j := pmin b i) hG hF (by decide +kernel) hb (by omega) (by decide) ?_
      refine V.icmp_ge hF (off := 5) (tgt := 27) (by decide +kernel) (by decide) (fun c2 => ?_) (fun c2 => ?_)
      · skip
        refine V.run hF [(.iinc 2 1, 3, .int 1), (.goto (-26), 3, .null)] (pc' := 4) (L' := [some (.ref s), some (.int (nI (pmin b i))), some (.int ((nI (i + 1)) + 1))]) (st' := []) (by decide +kernel) rfl ?_
        rw [nI_1 (i + 1)]
        rw [show pmin b i = pmin b (i + 1) by rw [pmin, if_neg (Int32.not_lt.mpr c2)]]
        exact ih (by omega)
      · skip
        refine V.run hF [(.iload_n 2, 1, .null), (.istore_n 1, 1, .null), (.iinc 2 1, 3, .int 1), (.goto (-26), 3, .null)] (pc' := 4) (L' := [some (.ref s), some (.int (nI (i + 1))), some (.int ((nI (i + 1)) + 1))]) (st' := []) (by decide +kernel) rfl ?_
        rw [nI_1 (i + 1)]
        have e : i + 1 = pmin b (i + 1) := by rw [pmin, if_pos (Int32.not_le.mp c2)]
        have := ih (by omega)
        rw [← e] at this
        exact this
  refine V.run hF [(.iconst 0, 1, .int 0), (.istore_n 1, 1, .null), (.iconst 1, 1, .int 1), (.istore_n 2, 1, .null)] (pc' := 4) (L' := [some (.ref s), some (.int 0), some (.int 1)]) (st' := []) (by decide +kernel) rfl ?_
  exact loop 0 (Nat.zero_le _)
set_option maxHeartbeats 4000000 in
theorem c_X1_wealthiest (hG : GOk G) (hA : h s = some (.inr (1, [.ref ba, .ref nl]))) (hb : h ba = some (.inl (0, 8, .inl b))) :
    Ct G yX1_wealthiest (.code yX1_wealthiest cX1_wealthiest 3 (some .int)) 0 0 0 0 [.ref s] h (is_i (nI (pmax b 7)) h) pxN := by
  refine Ct.of (by decide +kernel) (Nat.le_of_ble_eq_true rfl) fun F hF hT hN hRm => ?_
  have loop : ∀ i, i ≤ 7 → V G F (fin G F (is_i (nI (pmax b 7)) h) pxN) 0 0 4 [some (.ref s), some (.int (nI (pmax b i))), some (.int (nI (i + 1)))] [] h := by
    refine lp_up 7 fun i hi ih => ?_
    have hm := pmax_le b i
    refine V.run hF [(.iload_n 2, 1, .null), (.bipush 8, 2, .int (nI 8))] (pc' := 7) (L' := [some (.ref s), some (.int (nI (pmax b i))), some (.int (nI (i + 1)))]) (st' := [.int (nI 8), .int (nI (i + 1))]) (by decide +kernel) rfl ?_
    refine V.icmpN_ge (i := i + 1) (j := 8) hF (off := 26) (tgt := 33) (by decide +kernel) (by decide) (by omega) (by omega) (fun c1 => ?_) (fun c1 => ?_)
    · have ei : i = 7 := by omega
      refine V.run hF [(.iload_n 1, 1, .null)] (pc' := 34) (L' := [some (.ref s), some (.int (nI (pmax b i))), some (.int (nI (i + 1)))]) (st' := [.int (nI (pmax b i))]) (by decide +kernel) rfl ?_
      exact V.reti hF (by decide +kernel) ⟨by rw [ei], rfl⟩
    · skip
      refine V.run hF [(.aload_n 0, 1, .null)] (pc' := 11) (L' := [some (.ref s), some (.int (nI (pmax b i))), some (.int (nI (i + 1)))]) (st' := [.ref s]) (by decide +kernel) rfl ?_
      refine V.getf hG hF k_RX1_9 (by decide +kernel) hA rfl ?_
      refine V.run hF [(.iload_n 2, 1, .null)] (pc' := 15) (L' := [some (.ref s), some (.int (nI (pmax b i))), some (.int (nI (i + 1)))]) (st' := [.int (nI (i + 1)), .ref ba]) (by decide +kernel) rfl ?_
      refine V.ialdN (j := i + 1) hG hF (by decide +kernel) hb (by omega) (by decide) ?_
      refine V.run hF [(.aload_n 0, 1, .null)] (pc' := 17) (L' := [some (.ref s), some (.int (nI (pmax b i))), some (.int (nI (i + 1)))]) (st' := [.ref s, .int (b (i + 1))]) (by decide +kernel) rfl ?_
      refine V.getf hG hF k_RX1_9 (by decide +kernel) hA rfl ?_
      refine V.run hF [(.iload_n 1, 1, .null)] (pc' := 21) (L' := [some (.ref s), some (.int (nI (pmax b i))), some (.int (nI (i + 1)))]) (st' := [.int (nI (pmax b i)), .ref ba, .int (b (i + 1))]) (by decide +kernel) rfl ?_
      refine V.ialdN (j := pmax b i) hG hF (by decide +kernel) hb (by omega) (by decide) ?_
      refine V.icmp_le hF (off := 5) (tgt := 27) (by decide +kernel) (by decide) (fun c2 => ?_) (fun c2 => ?_)
      · skip
        refine V.run hF [(.iinc 2 1, 3, .int 1), (.goto (-26), 3, .null)] (pc' := 4) (L' := [some (.ref s), some (.int (nI (pmax b i))), some (.int ((nI (i + 1)) + 1))]) (st' := []) (by decide +kernel) rfl ?_
        rw [nI_1 (i + 1)]
        rw [show pmax b i = pmax b (i + 1) by rw [pmax, if_neg (Int32.not_lt.mpr c2)]]
        exact ih (by omega)
      · skip
        refine V.run hF [(.iload_n 2, 1, .null), (.istore_n 1, 1, .null), (.iinc 2 1, 3, .int 1), (.goto (-26), 3, .null)] (pc' := 4) (L' := [some (.ref s), some (.int (nI (i + 1))), some (.int ((nI (i + 1)) + 1))]) (st' := []) (by decide +kernel) rfl ?_
        rw [nI_1 (i + 1)]
        have e : i + 1 = pmax b (i + 1) := by rw [pmax, if_pos (Int32.not_le.mp c2)]
        have := ih (by omega)
        rw [← e] at this
        exact this
  refine V.run hF [(.iconst 0, 1, .int 0), (.istore_n 1, 1, .null), (.iconst 1, 1, .int 1), (.istore_n 2, 1, .null)] (pc' := 4) (L' := [some (.ref s), some (.int 0), some (.int 1)]) (st' := []) (by decide +kernel) rfl ?_
  exact loop 0 (Nat.zero_le _)
set_option maxHeartbeats 4000000 in
theorem c_X1_witnessFor (hG : GOk G) (ht : h t = some (.inl (1, 8, .inl th))) {d c : Nat} (hd : d < 8) (hc : c < 8) :
    Ct G yX1_witnessFor (.code yX1_witnessFor cX1_witnessFor 4 (some .int)) 0 0 0 0 [.int (nI d), .int (nI c), .ref t] h (is_i (on (wf th d c 8 0)) h) pxN := by
  refine Ct.of (by decide +kernel) (Nat.le_of_ble_eq_true rfl) fun F hF hT hN hRm => ?_
  have loop : ∀ i, i ≤ 8 → V G F (fin G F (is_i (on (wf th d c (8 - i) i)) h) pxN) 0 0 2 [some (.int (nI d)), some (.int (nI c)), some (.ref t), some (.int (nI i))] [] h := by
    refine lp_up 8 fun i hi ih => ?_
    refine V.run hF [(.iload_n 3, 1, .null), (.aload_n 2, 1, .null)] (pc' := 4) (L' := [some (.int (nI d)), some (.int (nI c)), some (.ref t), some (.int (nI i))]) (st' := [.ref t, .int (nI i)]) (by decide +kernel) rfl ?_
    refine V.alen hG hF (by decide +kernel) (by decide) ht ?_
    show V G F _ _ _ 5 [some (.int (nI d)), some (.int (nI c)), some (.ref t), some (.int (nI i))] [.int (nI 8), .int (nI i)] h
    refine V.icmpN_ge (i := i) (j := 8) hF (off := 27) (tgt := 32) (by decide +kernel) (by decide) (by omega) (by omega) (fun c1 => ?_) (fun c1 => ?_)
    · have ei : i = 8 := by omega
      refine V.run hF [(.iconst (-1), 1, .int (-1))] (pc' := 33) (L' := [some (.int (nI d)), some (.int (nI c)), some (.ref t), some (.int (nI i))]) (st' := [.int (-1)]) (by decide +kernel) rfl ?_
      exact V.reti hF (by decide +kernel) ⟨by rw [ei]; rfl, rfl⟩
    · skip
      have e8 : 8 - i = (8 - (i + 1)) + 1 := by omega
      have nx : ¬ (¬ th i = 0 ∧ ¬ i = d ∧ ¬ i = c) → wf th d c (8 - i) i = wf th d c (8 - (i + 1)) (i + 1) := fun q => by rw [e8, wf, if_neg q]
      refine V.run hF [(.aload_n 2, 1, .null), (.iload_n 3, 1, .null)] (pc' := 10) (L' := [some (.int (nI d)), some (.int (nI c)), some (.ref t), some (.int (nI i))]) (st' := [.int (nI i), .ref t]) (by decide +kernel) rfl ?_
      refine V.zaldN (j := i) hG hF (by decide +kernel) ht (by omega) (by decide) ?_
      refine V.if_eq hF (off := 15) (tgt := 26) (by decide +kernel) (by decide) (fun c2 => ?_) (fun c2 => ?_)
      · skip
        refine V.run hF [(.iinc 3 1, 3, .int 1), (.goto (-27), 3, .null)] (pc' := 2) (L' := [some (.int (nI d)), some (.int (nI c)), some (.ref t), some (.int ((nI i) + 1))]) (st' := []) (by decide +kernel) rfl ?_
        rw [nI_1 i]
        rw [nx (fun q => q.1 c2)]
        exact ih c1
      · skip
        refine V.run hF [(.iload_n 3, 1, .null), (.iload_n 0, 1, .null)] (pc' := 16) (L' := [some (.int (nI d)), some (.int (nI c)), some (.ref t), some (.int (nI i))]) (st' := [.int (nI d), .int (nI i)]) (by decide +kernel) rfl ?_
        refine V.icmpN_eq (i := i) (j := d) hF (off := 10) (tgt := 26) (by decide +kernel) (by decide) (by omega) (by omega) (fun c3 => ?_) (fun c3 => ?_)
        · skip
          refine V.run hF [(.iinc 3 1, 3, .int 1), (.goto (-27), 3, .null)] (pc' := 2) (L' := [some (.int (nI d)), some (.int (nI c)), some (.ref t), some (.int ((nI i) + 1))]) (st' := []) (by decide +kernel) rfl ?_
          rw [nI_1 i]
          rw [nx (fun q => q.2.1 c3)]
          exact ih c1
        · skip
          refine V.run hF [(.iload_n 3, 1, .null), (.iload_n 1, 1, .null)] (pc' := 21) (L' := [some (.int (nI d)), some (.int (nI c)), some (.ref t), some (.int (nI i))]) (st' := [.int (nI c), .int (nI i)]) (by decide +kernel) rfl ?_
          refine V.icmpN_eq (i := i) (j := c) hF (off := 5) (tgt := 26) (by decide +kernel) (by decide) (by omega) (by omega) (fun c4 => ?_) (fun c4 => ?_)
          · skip
            refine V.run hF [(.iinc 3 1, 3, .int 1), (.goto (-27), 3, .null)] (pc' := 2) (L' := [some (.int (nI d)), some (.int (nI c)), some (.ref t), some (.int ((nI i) + 1))]) (st' := []) (by decide +kernel) rfl ?_
            rw [nI_1 i]
            rw [nx (fun q => q.2.2 c4)]
            exact ih c1
          · skip
            refine V.run hF [(.iload_n 3, 1, .null)] (pc' := 25) (L' := [some (.int (nI d)), some (.int (nI c)), some (.ref t), some (.int (nI i))]) (st' := [.int (nI i)]) (by decide +kernel) rfl ?_
            exact V.reti hF (by decide +kernel) ⟨by rw [e8, wf, if_pos ⟨c2, c3, c4⟩]; rfl, rfl⟩
  refine V.run hF [(.iconst 0, 1, .int 0), (.istore_n 3, 1, .null)] (pc' := 2) (L' := [some (.int (nI d)), some (.int (nI c)), some (.ref t), some (.int 0)]) (st' := []) (by decide +kernel) rfl ?_
  exact loop 0 (Nat.zero_le _)
end Sm
end
section
/-! ===== Smoothing.planLine, plan ===== -/
def nd6 (ba nl nd nc nm nw : Nat) : Prop := (ba ≠ nl ∧ ba ≠ nd ∧ ba ≠ nc ∧ ba ≠ nm ∧ ba ≠ nw) ∧ nd4 nd nc nm nw
theorem kp5.k6 {h h' : Hp} {ba nl nd nc nm nw : Nat} (p : kp5 h h' nl nd nc nm nw) : kp6 h h' ba nl nd nc nm nw := fun q _ e2 e3 e4 e5 e6 => p q e2 e3 e4 e5 e6
theorem LLc.mv {h h' : Hp} {a d c m w n : Nat} {D C M W : Nat → Int32} (hL : LLc h a d c m w D C M W n) (e : ∀ q ∈ [a, d, c, m, w], h' q = h q) : LLc h' a d c m w D C M W n := by
  obtain ⟨h1, h2, h3, h4, h5⟩ := hL
  exact ⟨(e a (by simp)).trans h1, (e d (by simp)).trans h2, (e c (by simp)).trans h3, (e m (by simp)).trans h4, (e w (by simp)).trans h5⟩
section Pl
variable {G : Gt} {h : Hp} {s ba nl nd nc nm nw t : Nat} {th : Nat → Int32} {P : PS}
theorem SMc.ne (hS : SMc h s ba nl nd nc nm nw P) : s ≠ ba ∧ s ≠ nl ∧ s ≠ nd ∧ s ≠ nc ∧ s ≠ nm ∧ s ≠ nw := by
  obtain ⟨h1, h2, h3, h4, h5, h6, h7⟩ := hS
  refine ⟨?_, ?_, ?_, ?_, ?_, ?_⟩ <;> (rintro rfl; rw [h1] at *; simp at *)
set_option maxHeartbeats 4000000 in
theorem c_X1_planLine (hG : GOk G) (hS : SMc h s ba nl nd nc nm nw P) (h6 : nd6 ba nl nd nc nm nw) (hn : pn P < 12) (ht : h t = some (.inl (1, 8, .inl th))) {d c : Nat} (hd : d < 8) (hc : c < 8) :
    Ct G yX1_planLine (.code yX1_planLine cX1_planLine 6 (some .boolean)) 1 25 0 0 [.ref s, .int (nI d), .int (nI c), .ref t] h
      (fun v h' => (wf th d c 8 0 = none ∧ v = some (.int 0) ∧ h' = h) ∨ (∃ w, wf th d c 8 0 = some w ∧ v = some (.int 1) ∧ SMc h' s ba nl nd nc nm nw (pstp P d c w) ∧ kp6 h h' ba nl nd nc nm nw)) pxN := by
  refine Ct.of (by decide +kernel) (Nat.le_of_ble_eq_true rfl) fun F hF hT hN hRm => ?_
  obtain ⟨sn1, sn2, sn3, sn4, sn5, sn6⟩ := hS.ne
  obtain ⟨⟨b1, b2, b3, b4, b5⟩, h4⟩ := h6
  obtain ⟨hA, hb, hL⟩ := hS
  have b1q : ∀ q ∈ [nl, nd, nc, nm, nw], q ≠ ba := by
    intro q hq
    simp only [List.mem_cons, List.not_mem_nil, or_false] at hq
    rcases hq with rfl | rfl | rfl | rfl | rfl <;> (apply Ne.symm; assumption)
  refine V.run hF [(.iload_n 1, 1, .null), (.iload_n 2, 1, .null), (.aload_n 3, 1, .null)] (pc' := 3) (L' := [some (.ref s), some (.int (nI d)), some (.int (nI c)), some (.ref t), none, none]) (st' := [.ref t, .int (nI c), .int (nI d)]) (by decide +kernel) rfl ?_
  refine V.callS (As := [.int (nI d), .int (nI c), .ref t]) (st := []) hG hF k_RX1_41 (by decide +kernel) (c_X1_witnessFor hG ht hd hc) rfl ⟨by rw [hRm]; decide, by rw [hRm]; decide⟩ (Nat.le_of_ble_eq_true rfl) rfl (fun v h_1 gp1 => ?_) (fun E h9 hx => hx.elim)
  obtain ⟨rfl, he_gp1⟩ := gp1
  rw [he_gp1]
  show V G F _ _ _ 6 [some (.ref s), some (.int (nI d)), some (.int (nI c)), some (.ref t), none, none] [.int (on (wf th d c 8 0))] h
  refine V.run hF [(.istore 4, 2, .null), (.iload 4, 2, .null), (.iconst (-1), 1, .int (-1))] (pc' := 11) (L' := [some (.ref s), some (.int (nI d)), some (.int (nI c)), some (.ref t), some (.int (on (wf th d c 8 0))), none]) (st' := [.int (-1), .int (on (wf th d c 8 0))]) (by decide +kernel) rfl ?_
  refine V.icmp_ne hF (off := 5) (tgt := 16) (by decide +kernel) (by decide) (fun c1 => ?_) (fun c1 => ?_)
  · obtain ⟨w, hw⟩ : ∃ w, wf th d c 8 0 = some w := by
      cases hw : wf th d c 8 0 with
      | none => exact absurd (by rw [hw]; rfl) c1
      | some w => exact ⟨w, rfl⟩
    have e1 : on (wf th d c 8 0) = nI w := by rw [hw]; rfl
    rw [e1]
    refine V.run hF [(.aload_n 0, 1, .null)] (pc' := 17) (L' := [some (.ref s), some (.int (nI d)), some (.int (nI c)), some (.ref t), some (.int (nI w)), none]) (st' := [.ref s]) (by decide +kernel) rfl ?_
    refine V.getf hG hF k_RX1_9 (by decide +kernel) hA rfl ?_
    refine V.run hF [(.iload_n 1, 1, .null)] (pc' := 21) (L' := [some (.ref s), some (.int (nI d)), some (.int (nI c)), some (.ref t), some (.int (nI w)), none]) (st' := [.int (nI d), .ref ba]) (by decide +kernel) rfl ?_
    refine V.ialdN (j := d) hG hF (by decide +kernel) hb (by omega) (by decide) ?_
    refine V.run hF [(.ineg, 1, .null), (.aload_n 0, 1, .null)] (pc' := 24) (L' := [some (.ref s), some (.int (nI d)), some (.int (nI c)), some (.ref t), some (.int (nI w)), none]) (st' := [.ref s, .int (-((pB P) d))]) (by decide +kernel) rfl ?_
    refine V.getf hG hF k_RX1_9 (by decide +kernel) hA rfl ?_
    refine V.run hF [(.iload_n 2, 1, .null)] (pc' := 28) (L' := [some (.ref s), some (.int (nI d)), some (.int (nI c)), some (.ref t), some (.int (nI w)), none]) (st' := [.int (nI c), .ref ba, .int (-((pB P) d))]) (by decide +kernel) rfl ?_
    refine V.ialdN (j := c) hG hF (by decide +kernel) hb (by omega) (by decide) ?_
    refine V.mmin hG hF tw_364 tw_mm1 tw_mm2 tw_mm3 (by decide +kernel) ⟨by rw [hRm]; decide, by rw [hRm]; decide⟩ ?_
    show V G F _ _ _ 32 [some (.ref s), some (.int (nI d)), some (.int (nI c)), some (.ref t), some (.int (nI w)), none] [.int (pamt (pB P) d c)] h
    refine V.run hF [(.istore 5, 2, .null), (.aload_n 0, 1, .null)] (pc' := 35) (L' := [some (.ref s), some (.int (nI d)), some (.int (nI c)), some (.ref t), some (.int (nI w)), some (.int (pamt (pB P) d c))]) (st' := [.ref s]) (by decide +kernel) rfl ?_
    refine V.getf hG hF k_RX1_9 (by decide +kernel) hA rfl ?_
    refine V.run hF [(.iload_n 1, 1, .null), (.dup2, 1, .null)] (pc' := 40) (L' := [some (.ref s), some (.int (nI d)), some (.int (nI c)), some (.ref t), some (.int (nI w)), some (.int (pamt (pB P) d c))]) (st' := [.int (nI d), .ref ba, .int (nI d), .ref ba]) (by decide +kernel) rfl ?_
    refine V.ialdN (j := d) hG hF (by decide +kernel) hb (by omega) (by decide) ?_
    refine V.run hF [(.iload 5, 2, .null), (.iadd, 1, .null)] (pc' := 44) (L' := [some (.ref s), some (.int (nI d)), some (.int (nI c)), some (.ref t), some (.int (nI w)), some (.int (pamt (pB P) d c))]) (st' := [.int ((pB P) d + pamt (pB P) d c), .int (nI d), .ref ba]) (by decide +kernel) rfl ?_
    refine V.iastN (j := d) hG hF (by decide +kernel) hb (by omega) (by decide) ?_
    obtain ⟨h_2, gh2⟩ : ∃ z : Hp, z = hset h ba (.inl (0, 8, .inl (upd (pB P) d ((pB P) d + pamt (pB P) d c)))) := ⟨_, rfl⟩
    refine V.hp gh2 ?_
    have gk2 : ∀ q : Nat, q ≠ ba → h_2 q = h q := fun q hq => by rw [gh2]; exact hset_ne hq
    have gs2 : h_2 ba = some (.inl (0, 8, .inl (upd (pB P) d ((pB P) d + pamt (pB P) d c)))) := by rw [gh2]; exact hset_eq
    refine V.run hF [(.aload_n 0, 1, .null)] (pc' := 46) (L' := [some (.ref s), some (.int (nI d)), some (.int (nI c)), some (.ref t), some (.int (nI w)), some (.int (pamt (pB P) d c))]) (st' := [.ref s]) (by decide +kernel) rfl ?_
    have gf3 : h_2 s = some (.inr (1, [.ref ba, .ref nl])) := (gk2 s (by first | assumption | exact Ne.symm (by assumption) | omega)).trans hA
    refine V.getf hG hF k_RX1_9 (by decide +kernel) gf3 rfl ?_
    refine V.run hF [(.iload_n 2, 1, .null), (.dup2, 1, .null)] (pc' := 51) (L' := [some (.ref s), some (.int (nI d)), some (.int (nI c)), some (.ref t), some (.int (nI w)), some (.int (pamt (pB P) d c))]) (st' := [.int (nI c), .ref ba, .int (nI c), .ref ba]) (by decide +kernel) rfl ?_
    refine V.ialdN (j := c) hG hF (by decide +kernel) gs2 (by omega) (by decide) ?_
    refine V.run hF [(.iload 5, 2, .null), (.isub, 1, .null)] (pc' := 55) (L' := [some (.ref s), some (.int (nI d)), some (.int (nI c)), some (.ref t), some (.int (nI w)), some (.int (pamt (pB P) d c))]) (st' := [.int ((upd (pB P) d ((pB P) d + pamt (pB P) d c)) c - pamt (pB P) d c), .int (nI c), .ref ba]) (by decide +kernel) rfl ?_
    refine V.iastN (j := c) hG hF (by decide +kernel) gs2 (by omega) (by decide) ?_
    obtain ⟨h_4, gh4⟩ : ∃ z : Hp, z = hset h_2 ba (.inl (0, 8, .inl (upd (upd (pB P) d ((pB P) d + pamt (pB P) d c)) c ((upd (pB P) d ((pB P) d + pamt (pB P) d c)) c - pamt (pB P) d c)))) := ⟨_, rfl⟩
    refine V.hp gh4 ?_
    have gk4 : ∀ q : Nat, q ≠ ba → h_4 q = h_2 q := fun q hq => by rw [gh4]; exact hset_ne hq
    have gs4 : h_4 ba = some (.inl (0, 8, .inl (upd (upd (pB P) d ((pB P) d + pamt (pB P) d c)) c ((upd (pB P) d ((pB P) d + pamt (pB P) d c)) c - pamt (pB P) d c)))) := by rw [gh4]; exact hset_eq
    refine V.run hF [(.aload_n 0, 1, .null)] (pc' := 57) (L' := [some (.ref s), some (.int (nI d)), some (.int (nI c)), some (.ref t), some (.int (nI w)), some (.int (pamt (pB P) d c))]) (st' := [.ref s]) (by decide +kernel) rfl ?_
    have gf5 : h_4 s = some (.inr (1, [.ref ba, .ref nl])) := (gk4 s (by first | assumption | exact Ne.symm (by assumption) | omega)).trans gf3
    refine V.getf hG hF k_RX1_18 (by decide +kernel) gf5 rfl ?_
    refine V.run hF [(.iload_n 1, 1, .null), (.iload_n 2, 1, .null), (.iload 5, 2, .null), (.iload 4, 2, .null)] (pc' := 66) (L' := [some (.ref s), some (.int (nI d)), some (.int (nI c)), some (.ref t), some (.int (nI w)), some (.int (pamt (pB P) d c))]) (st' := [.int (nI w), .int (pamt (pB P) d c), .int (nI c), .int (nI d), .ref nl]) (by decide +kernel) rfl ?_
    have hL4 := hL.mv (h' := h_4) (fun q hq => ((gk4 q (b1q q hq)).trans ((gk2 q (b1q q hq)))))
    have hs4 := gs4
    have hs5 := gf5
    have hkk : kp6 h h_4 ba nl nd nc nm nw := fun q e1 _ _ _ _ _ => ((gk4 q e1).trans ((gk2 q e1)))
    refine V.callVN (As := [.int (nI d), .int (nI c), .int (pamt (pB P) d c), .int (nI w)]) (st := []) hG hF k_RX1_51 (by decide +kernel) (c_X0_append hG hL4 h4 hn _ _ _ _) hL4.1 rfl rfl ⟨by rw [hRm]; decide, by rw [hRm]; decide⟩ (Nat.le_of_ble_eq_true rfl) rfl (fun v h_6 gp6 => ?_)
    obtain ⟨rfl, hL5, hk5⟩ := gp6
    show V G F _ _ _ 69 [some (.ref s), some (.int (nI d)), some (.int (nI c)), some (.ref t), some (.int (nI w)), some (.int (pamt (pB P) d c))] [] h_6
    refine V.run hF [(.iconst 1, 1, .int 1)] (pc' := 70) (L' := [some (.ref s), some (.int (nI d)), some (.int (nI c)), some (.ref t), some (.int (nI w)), some (.int (pamt (pB P) d c))]) (st' := [.int 1]) (by decide +kernel) rfl ?_
    exact V.retz hF (by decide +kernel) rfl (Or.inr ⟨w, hw, rfl, ⟨(hk5 s sn2 sn3 sn4 sn5 sn6).trans hs5, (hk5 ba b1 b2 b3 b4 b5).trans hs4, hL5⟩, hkk.tr hk5.k6⟩)
  · skip
    refine V.run hF [(.iconst 0, 1, .int 0)] (pc' := 15) (L' := [some (.ref s), some (.int (nI d)), some (.int (nI c)), some (.ref t), some (.int (on (wf th d c 8 0))), none]) (st' := [.int 0]) (by decide +kernel) rfl ?_
    exact V.retz hF (by decide +kernel) rfl (Or.inl ⟨by
      cases hw : wf th d c 8 0 with
      | none => rfl
      | some w =>
        have hlt := wf_lt hw
        rw [hw] at c1
        have : nI w = -1 := c1
        exact absurd (show nI w < 0 by rw [this]; decide) (nI_pos (by omega)), rfl, rfl⟩)
/-- a plan of f steps from P on goes on at most so long -/
theorem pl_n {th : Nat → Int32} : ∀ (f : Nat) (P : PS), pn (pl th f P).2 ≤ pn P + f
  | 0, P => Nat.le_refl _
  | f + 1, P => by
    unfold pl
    split
    · split
      · exact Nat.le_add_right _ _
      · have := pl_n (th := th) f (pstp P (pmin (pB P) 7) (pmax (pB P) 7) ‹_›)
        have e : pn (pstp P (pmin (pB P) 7) (pmax (pB P) 7) ‹_›) = pn P + 1 := rfl
        omega
    · exact Nat.le_add_right _ _
end Pl
end
section
/-! ===== Smoothing.plan; Smoothing's constructor ===== -/
def balN (D C M : Nat → Int32) (n : Nat) : Nat → Int32 := fun p => bal D C M (nI p) n
def pl0 (D C M : Nat → Int32) (n : Nat) (P : PS) : PS := (balN D C M n, pD P, pC P, pM P, pW P, 0)
def dj6 (L : List Nat) (ba nl nd nc nm nw : Nat) : Prop := ∀ x ∈ L, ∀ y ∈ [ba, nl, nd, nc, nm, nw], x ≠ y
theorem kp6.at {h h' : Hp} {L : List Nat} {ba nl nd nc nm nw x : Nat} (hk : kp6 h h' ba nl nd nc nm nw) (hj : dj6 L ba nl nd nc nm nw) (hx : x ∈ L) : h' x = h x :=
  hk x (hj x hx _ (by simp)) (hj x hx _ (by simp)) (hj x hx _ (by simp)) (hj x hx _ (by simp)) (hj x hx _ (by simp)) (hj x hx _ (by simp))
theorem pl_neg {th : Nat → Int32} {f : Nat} {P : PS} (h : ¬ pB P (pmin (pB P) 7) < 0) : pl th (f + 1) P = (true, P) := if_neg h
theorem pl_none {th : Nat → Int32} {f : Nat} {P : PS} (h : pB P (pmin (pB P) 7) < 0) (hw : wf th (pmin (pB P) 7) (pmax (pB P) 7) 8 0 = none) : pl th (f + 1) P = (false, P) := by
  rw [pl, if_pos h, hw]
theorem pl_some {th : Nat → Int32} {f w : Nat} {P : PS} (h : pB P (pmin (pB P) 7) < 0) (hw : wf th (pmin (pB P) 7) (pmax (pB P) 7) 8 0 = some w) : pl th (f + 1) P = pl th f (pstp P (pmin (pB P) 7) (pmax (pB P) 7) w) := by
  rw [pl, if_pos h, hw]
section Pl2
variable {G : Gt} {h : Hp} {s ba nl nd nc nm nw t a d c m w n : Nat} {th D C M W : Nat → Int32} {P : PS}
set_option maxHeartbeats 4000000 in
theorem c_X1_plan (hG : GOk G) (hS : SMc h s ba nl nd nc nm nw P) (h6 : nd6 ba nl nd nc nm nw) (hL : LLc h a d c m w D C M W n) (hn : n ≤ 12) (ht : h t = some (.inl (1, 8, .inl th))) (hj : dj6 [a, d, c, m, w, t] ba nl nd nc nm nw) :
    Ct G yX1_plan (.code yX1_plan cX1_plan 5 (some .boolean)) 2 50 0 0 [.ref s, .ref a, .ref t] h
      (fun v h' => v = some (.int (tf ((pl th 8 (pl0 D C M n P)).1 = true))) ∧ SMc h' s ba nl nd nc nm nw (pl th 8 (pl0 D C M n P)).2 ∧ kp6 h h' ba nl nd nc nm nw) pxN := by
  refine Ct.of (by decide +kernel) (Nat.le_of_ble_eq_true rfl) fun F hF hT hN hRm => ?_
  obtain ⟨sn1, sn2, sn3, sn4, sn5, sn6⟩ := hS.ne
  obtain ⟨⟨b1, b2, b3, b4, b5⟩, h4⟩ := id h6
  have loop2 : ∀ k, k ≤ 8 → ∀ (h1 : Hp) (P1 : PS), SMc h1 s ba nl nd nc nm nw P1 → pn P1 ≤ k → pl th 8 (pl0 D C M n P) = pl th (8 - k) P1 → kp6 h h1 ba nl nd nc nm nw → V G F (fin G F (fun v h' => v = some (.int (tf ((pl th 8 (pl0 D C M n P)).1 = true))) ∧ SMc h' s ba nl nd nc nm nw (pl th 8 (pl0 D C M n P)).2 ∧ kp6 h h' ba nl nd nc nm nw) pxN) 0 0 35 [some (.ref s), some (.ref a), some (.ref t), some (.int (nI k)), none] [] h1 := by
    refine lp_up 8 fun k hk ih => ?_
    intro h1 P1 hS1 hn1 hpl hkp
    have ht1 : h1 t = some (.inl (1, 8, .inl th)) := (hkp.at hj (by simp)).trans ht
    obtain ⟨g1, g2, g3⟩ := id hS1
    refine V.run hF [(.iload_n 3, 1, .null), (.bipush 8, 2, .int (nI 8))] (pc' := 38) (L' := [some (.ref s), some (.ref a), some (.ref t), some (.int (nI k)), none]) (st' := [.int (nI 8), .int (nI k)]) (by decide +kernel) rfl ?_
    refine V.icmpN_ge (i := k) (j := 8) hF (off := 43) (tgt := 81) (by decide +kernel) (by decide) (by omega) (by omega) (fun c1 => ?_) (fun c1 => ?_)
    · have ek : 8 - k = 0 := by omega
      rw [ek] at hpl
      refine V.run hF [(.iconst 1, 1, .int 1)] (pc' := 82) (L' := [some (.ref s), some (.ref a), some (.ref t), some (.int (nI k)), none]) (st' := [.int 1]) (by decide +kernel) rfl ?_
      exact V.retz hF (by decide +kernel) rfl ⟨by rw [hpl]; rfl, by rw [hpl]; exact hS1, hkp⟩
    · skip
      have e8 : 8 - k = (8 - (k + 1)) + 1 := by omega
      rw [e8] at hpl
      have hmin := pmin_le (pB P1) 7
      have hmax := pmax_le (pB P1) 7
      refine V.run hF [(.aload_n 0, 1, .null)] (pc' := 42) (L' := [some (.ref s), some (.ref a), some (.ref t), some (.int (nI k)), none]) (st' := [.ref s]) (by decide +kernel) rfl ?_
      refine V.callV (As := []) (st := []) hG hF k_RX1_30 (by decide +kernel) (c_X1_poorest hG g1 g2) g1 rfl rfl ⟨by rw [hRm]; decide, by rw [hRm]; decide⟩ (Nat.le_of_ble_eq_true rfl) rfl (fun v h_1 gp1 => ?_) (fun E h9 hx => hx.elim)
      obtain ⟨rfl, he_gp1⟩ := gp1
      rw [he_gp1]
      show V G F _ _ _ 45 [some (.ref s), some (.ref a), some (.ref t), some (.int (nI k)), none] [.int (nI (pmin (pB P1) 7))] h1
      refine V.run hF [(.istore 4, 2, .null), (.aload_n 0, 1, .null)] (pc' := 48) (L' := [some (.ref s), some (.ref a), some (.ref t), some (.int (nI k)), some (.int (nI (pmin (pB P1) 7)))]) (st' := [.ref s]) (by decide +kernel) rfl ?_
      refine V.getf hG hF k_RX1_9 (by decide +kernel) g1 rfl ?_
      refine V.run hF [(.iload 4, 2, .null)] (pc' := 53) (L' := [some (.ref s), some (.ref a), some (.ref t), some (.int (nI k)), some (.int (nI (pmin (pB P1) 7)))]) (st' := [.int (nI (pmin (pB P1) 7)), .ref ba]) (by decide +kernel) rfl ?_
      refine V.ialdN (j := pmin (pB P1) 7) hG hF (by decide +kernel) g2 (by omega) (by decide) ?_
      refine V.if_lt hF (off := 5) (tgt := 59) (by decide +kernel) (by decide) (fun c2 => ?_) (fun c2 => ?_)
      · skip
        refine V.run hF [(.aload_n 0, 1, .null), (.iload 4, 2, .null), (.aload_n 0, 1, .null)] (pc' := 63) (L' := [some (.ref s), some (.ref a), some (.ref t), some (.int (nI k)), some (.int (nI (pmin (pB P1) 7)))]) (st' := [.ref s, .int (nI (pmin (pB P1) 7)), .ref s]) (by decide +kernel) rfl ?_
        refine V.callV (As := []) (st := [.int (nI (pmin (pB P1) 7)), .ref s]) hG hF k_RX1_34 (by decide +kernel) (c_X1_wealthiest hG g1 g2) g1 rfl rfl ⟨by rw [hRm]; decide, by rw [hRm]; decide⟩ (Nat.le_of_ble_eq_true rfl) rfl (fun v h_2 gp2 => ?_) (fun E h9 hx => hx.elim)
        obtain ⟨rfl, he_gp2⟩ := gp2
        rw [he_gp2]
        show V G F _ _ _ 66 [some (.ref s), some (.ref a), some (.ref t), some (.int (nI k)), some (.int (nI (pmin (pB P1) 7)))] [.int (nI (pmax (pB P1) 7)), .int (nI (pmin (pB P1) 7)), .ref s] h1
        refine V.run hF [(.aload_n 2, 1, .null)] (pc' := 67) (L' := [some (.ref s), some (.ref a), some (.ref t), some (.int (nI k)), some (.int (nI (pmin (pB P1) 7)))]) (st' := [.ref t, .int (nI (pmax (pB P1) 7)), .int (nI (pmin (pB P1) 7)), .ref s]) (by decide +kernel) rfl ?_
        refine V.callV (As := [.int (nI (pmin (pB P1) 7)), .int (nI (pmax (pB P1) 7)), .ref t]) (st := []) hG hF k_RX1_37 (by decide +kernel) (c_X1_planLine hG hS1 h6 (by omega) ht1 (by omega) (by omega)) g1 rfl rfl ⟨by rw [hRm]; decide, by rw [hRm]; decide⟩ (Nat.le_of_ble_eq_true rfl) rfl (fun v h2 hp => ?_) (fun E h9 hx => hx.elim)
        rcases hp with ⟨hw, rfl, he⟩ | ⟨w', hw, rfl, hS2, hk2⟩
        · skip
          rw [he]
          have hpl := hpl.trans (pl_none c2 hw)
          show V G F _ _ _ 70 [some (.ref s), some (.ref a), some (.ref t), some (.int (nI k)), some (.int (nI (pmin (pB P1) 7)))] [.int 0] h1
          refine V.if_ne hF (off := 5) (tgt := 75) (by decide +kernel) (by decide) (fun c3 => ?_) (fun c3 => ?_)
          · exact absurd rfl c3
          · skip
            refine V.run hF [(.iconst 0, 1, .int 0)] (pc' := 74) (L' := [some (.ref s), some (.ref a), some (.ref t), some (.int (nI k)), some (.int (nI (pmin (pB P1) 7)))]) (st' := [.int 0]) (by decide +kernel) rfl ?_
            exact V.retz hF (by decide +kernel) rfl ⟨by rw [hpl]; rfl, by rw [hpl]; exact hS1, hkp⟩
        · skip
          have hpl := hpl.trans (pl_some c2 hw)
          show V G F _ _ _ 70 [some (.ref s), some (.ref a), some (.ref t), some (.int (nI k)), some (.int (nI (pmin (pB P1) 7)))] [.int 1] h2
          refine V.if_ne hF (off := 5) (tgt := 75) (by decide +kernel) (by decide) (fun c3 => ?_) (fun c3 => ?_)
          · skip
            refine V.run hF [(.iinc 3 1, 3, .int 1), (.goto (-43), 3, .null)] (pc' := 35) (L' := [some (.ref s), some (.ref a), some (.ref t), some (.int ((nI k) + 1)), some (.int (nI (pmin (pB P1) 7)))]) (st' := []) (by decide +kernel) rfl ?_
            rw [nI_1 k]
            have := ih c1 h2 (pstp P1 (pmin (pB P1) 7) (pmax (pB P1) 7) w') hS2 (Nat.succ_le_succ hn1) hpl (hkp.tr hk2)
            exact V.loc (fun i v hv => by
              match i, hv with
              | 0, hv => exact hv
              | 1, hv => exact hv
              | 2, hv => exact hv
              | 3, hv => exact hv
              | 4, hv => cases hv
              | q + 5, hv => cases hv) this
          · skip
            exact absurd c3 (by decide)
      · skip
        have hpl := hpl.trans (pl_neg c2)
        refine V.run hF [(.iconst 1, 1, .int 1)] (pc' := 58) (L' := [some (.ref s), some (.ref a), some (.ref t), some (.int (nI k)), some (.int (nI (pmin (pB P1) 7)))]) (st' := [.int 1]) (by decide +kernel) rfl ?_
        exact V.retz hF (by decide +kernel) rfl ⟨by rw [hpl]; rfl, by rw [hpl]; exact hS1, hkp⟩
  have loop1 : ∀ i, i ≤ 8 → ∀ (h1 : Hp), h1 s = some (.inr (1, [.ref ba, .ref nl])) → h1 ba = some (.inl (0, 8, .inl (mxk i (balN D C M n) (pB P)))) → LLc h1 nl nd nc nm nw (pD P) (pC P) (pM P) (pW P) 0 → kp6 h h1 ba nl nd nc nm nw → V G F (fin G F (fun v h' => v = some (.int (tf ((pl th 8 (pl0 D C M n P)).1 = true))) ∧ SMc h' s ba nl nd nc nm nw (pl th 8 (pl0 D C M n P)).2 ∧ kp6 h h' ba nl nd nc nm nw) pxN) 0 0 10 [some (.ref s), some (.ref a), some (.ref t), some (.int (nI i)), none] [] h1 := by
    refine lp_up 8 fun i hi ih => ?_
    intro h1 g1 g2 g3 hkp
    have hL1 : LLc h1 a d c m w D C M W n := hL.mv (fun q hq => hkp.at hj (by
      simp only [List.mem_cons, List.not_mem_nil, or_false] at hq ⊢
      rcases hq with q | q | q | q | q <;> simp [q]))
    refine V.run hF [(.iload_n 3, 1, .null), (.bipush 8, 2, .int (nI 8))] (pc' := 13) (L' := [some (.ref s), some (.ref a), some (.ref t), some (.int (nI i)), none]) (st' := [.int (nI 8), .int (nI i)]) (by decide +kernel) rfl ?_
    refine V.icmpN_ge (i := i) (j := 8) hF (off := 20) (tgt := 33) (by decide +kernel) (by decide) (by omega) (by omega) (fun c1 => ?_) (fun c1 => ?_)
    · have e8 : ∀ j, j < 8 → mxk i (balN D C M n) (pB P) j = balN D C M n j := fun j hj => if_pos (by omega)
      refine V.extI g2 e8 ?_
      refine V.run hF [(.iconst 0, 1, .int 0), (.istore_n 3, 1, .null)] (pc' := 35) (L' := [some (.ref s), some (.ref a), some (.ref t), some (.int 0), none]) (st' := []) (by decide +kernel) rfl ?_
      have hk2 : ∀ q : Nat, q ≠ ba → hset h1 ba (.inl (0, 8, .inl (balN D C M n))) q = h1 q := fun q hq => hset_ne hq
      exact loop2 0 (Nat.zero_le _) _ (pl0 D C M n P) ⟨(hk2 s sn1).trans g1, hset_eq, g3.mv (fun q hq => hk2 q (by
        simp only [List.mem_cons, List.not_mem_nil, or_false] at hq
        rcases hq with rfl | rfl | rfl | rfl | rfl <;> (apply Ne.symm; assumption)))⟩ (Nat.le_refl _) rfl (hkp.tr (fun q e1 _ _ _ _ _ => hk2 q e1))
    · skip
      refine V.run hF [(.aload_n 0, 1, .null)] (pc' := 17) (L' := [some (.ref s), some (.ref a), some (.ref t), some (.int (nI i)), none]) (st' := [.ref s]) (by decide +kernel) rfl ?_
      refine V.getf hG hF k_RX1_9 (by decide +kernel) g1 rfl ?_
      refine V.run hF [(.iload_n 3, 1, .null), (.aload_n 1, 1, .null), (.iload_n 3, 1, .null)] (pc' := 23) (L' := [some (.ref s), some (.ref a), some (.ref t), some (.int (nI i)), none]) (st' := [.int (nI i), .ref a, .int (nI i), .ref ba]) (by decide +kernel) rfl ?_
      refine V.callVN (As := [.int (nI i)]) (st := [.int (nI i), .ref ba]) hG hF k_RX1_26 (by decide +kernel) (c_X0_balanceOf hG hL1 hn (nI i)) hL1.1 rfl rfl ⟨by rw [hRm]; decide, by rw [hRm]; decide⟩ (Nat.le_of_ble_eq_true rfl) rfl (fun v h_1 gp1 => ?_)
      obtain ⟨rfl, he_gp1⟩ := gp1
      rw [he_gp1]
      show V G F _ _ _ 26 [some (.ref s), some (.ref a), some (.ref t), some (.int (nI i)), none] [.int (bal D C M (nI i) n), .int (nI i), .ref ba] h1
      show V G F _ _ _ 26 [some (.ref s), some (.ref a), some (.ref t), some (.int (nI i)), none] [.int (balN D C M n i), .int (nI i), .ref ba] h1
      refine V.iastN (j := i) hG hF (by decide +kernel) g2 (by omega) (by decide) ?_
      obtain ⟨h_2, gh2⟩ : ∃ z : Hp, z = hset h1 ba (.inl (0, 8, .inl (upd (mxk i (balN D C M n) (pB P)) i (balN D C M n i)))) := ⟨_, rfl⟩
      refine V.hp gh2 ?_
      have gk2 : ∀ q : Nat, q ≠ ba → h_2 q = h1 q := fun q hq => by rw [gh2]; exact hset_ne hq
      have gs2 : h_2 ba = some (.inl (0, 8, .inl (upd (mxk i (balN D C M n) (pB P)) i (balN D C M n i)))) := by rw [gh2]; exact hset_eq
      refine V.run hF [(.iinc 3 1, 3, .int 1), (.goto (-20), 3, .null)] (pc' := 10) (L' := [some (.ref s), some (.ref a), some (.ref t), some (.int ((nI i) + 1)), none]) (st' := []) (by decide +kernel) rfl ?_
      rw [nI_1 i]
      refine ih c1 h_2 ?_ ?_ ?_ ?_
      · exact (gk2 s sn1).trans g1
      · rw [← mxk_s]
        exact gs2
      · exact g3.mv (fun q hq => gk2 q (by
          simp only [List.mem_cons, List.not_mem_nil, or_false] at hq
          rcases hq with rfl | rfl | rfl | rfl | rfl <;> (apply Ne.symm; assumption)))
      · exact hkp.tr (fun q e1 _ _ _ _ _ => gk2 q e1)
  obtain ⟨hA, hb, hN⟩ := hS
  refine V.run hF [(.aload_n 0, 1, .null)] (pc' := 1) (L' := [some (.ref s), some (.ref a), some (.ref t), none, none]) (st' := [.ref s]) (by decide +kernel) rfl ?_
  refine V.getf hG hF k_RX1_18 (by decide +kernel) hA rfl ?_
  refine V.run hF [(.iconst 0, 1, .int 0)] (pc' := 5) (L' := [some (.ref s), some (.ref a), some (.ref t), none, none]) (st' := [.int 0, .ref nl]) (by decide +kernel) rfl ?_
  refine V.putf hG hF k_RX1_22 (by decide +kernel) hN.1 (fun C T N hc => by cases hc; exact ⟨rfl, .int, by decide +kernel, rfl, rfl⟩) (Nat.le_of_ble_eq_true rfl) ?_
  obtain ⟨h_1, gh1⟩ : ∃ z : Hp, z = hset h nl (.inr (0, [.ref nd, .ref nc, .ref nm, .ref nw, .int 0])) := ⟨_, rfl⟩
  refine V.hp gh1 ?_
  have gk1 : ∀ q : Nat, q ≠ nl → h_1 q = h q := fun q hq => by rw [gh1]; exact hset_ne hq
  have gs1 : h_1 nl = some (.inr (0, [.ref nd, .ref nc, .ref nm, .ref nw, .int 0])) := by rw [gh1]; exact hset_eq
  refine V.run hF [(.iconst 0, 1, .int 0), (.istore_n 3, 1, .null)] (pc' := 10) (L' := [some (.ref s), some (.ref a), some (.ref t), some (.int 0), none]) (st' := []) (by decide +kernel) rfl ?_
  obtain ⟨⟨q1, q2, q3, q4⟩, -⟩ := hN.nd h4
  refine loop1 0 (Nat.zero_le _) h_1 ((gk1 s sn2).trans hA) ?_ ⟨gs1, (gk1 nd (Ne.symm q1)).trans hN.2.1, (gk1 nc (Ne.symm q2)).trans hN.2.2.1, (gk1 nm (Ne.symm q3)).trans hN.2.2.2.1, (gk1 nw (Ne.symm q4)).trans hN.2.2.2.2⟩ (fun q _ e2 _ _ _ _ => gk1 q e2)
  rw [mxk_0]
  exact (gk1 ba b1).trans hb
end Pl2
end
section
section M3
variable {G : Gt} {F : Ft} {Q : State → Prop} {own : String} {cc : ByteArray} {nL : Nat} {ret : Option FieldType} {kc ks pc : Nat} {L : List (Option Value)} {st : List Value} {h : Hp}
theorem V.ldcw (hG : GOk G) (hF : Ok G F own cc nL ret) {ix : Nat} {v : Int32} (hw : Cond.constant own ix v ∈ lw_tbl ∧ kw (Cond.constant own ix v) = true) (hd : decode cc pc = .ok (.ldc_w ix, 3)) (kk : V G F Q kc ks (pc + 3) L (.int v :: st) h) : V G F Q kc ks pc L st h :=
  fun H locs ls cells slots hR hS hL hz h1 h2 => lv_ldcw hF.1 hF.2.1 hF.2.2.2.2.1 (hF.wd hG hw.1 hw.2) hd (kk H locs ls cells slots hR hS hL hz h1 h2)
theorem V.aaldZ {a n j t : Nat} {f : Nat → Option Nat} (hG : GOk G) (hF : Ok G F own cc nL ret) (hd : decode cc pc = .ok (.aaload, 1)) (hc : h a = some (.inl (t, n, .inr (.inr (.inr (.inr f)))))) (hj : j < n) (hn : n < 2 ^ 31) (hf : f j = none) (kk : V G F Q kc ks (pc + 1) L (.null :: st) h) (ht : 2 ≤ t ∧ t < 5 := by decide) : V G F Q kc ks pc L (.int (nI j) :: .ref a :: st) h := by
  refine V.aaldN hG hF hd hc hj hn ?_ ht
  rw [hf]
  exact kk
theorem V.aaldS {a n j b t : Nat} {f : Nat → Option Nat} (hG : GOk G) (hF : Ok G F own cc nL ret) (hd : decode cc pc = .ok (.aaload, 1)) (hc : h a = some (.inl (t, n, .inr (.inr (.inr (.inr f)))))) (hj : j < n) (hn : n < 2 ^ 31) (hf : f j = some b) (kk : V G F Q kc ks (pc + 1) L (.ref b :: st) h) (ht : 2 ≤ t ∧ t < 5 := by decide) : V G F Q kc ks pc L (.int (nI j) :: .ref a :: st) h := by
  refine V.aaldN hG hF hd hc hj hn ?_ ht
  rw [hf]
  exact kk
theorem V.ifnull0 (hF : Ok G F own cc nL ret) {off : Int} {tgt : Nat} (hd : decode cc pc = .ok (.ifnull off, 3)) (ht : (pc : Int) + off = (tgt : Int)) (kk : V G F Q kc ks tgt L st h) : V G F Q kc ks pc L (.null :: st) h :=
  V.ifnull (r := none) hF hd ht (fun _ => kk) (fun a e => by cases e)
theorem V.ifnull1 (hF : Ok G F own cc nL ret) {off : Int} {b : Nat} (hd : decode cc pc = .ok (.ifnull off, 3)) (kk : V G F Q kc ks (pc + 3) L st h) : V G F Q kc ks pc L (.ref b :: st) h :=
  fun H locs ls cells slots hR hS hL hz h1 h2 => lv_ifnull hF.1 hF.2.1 hd (kk H locs ls cells slots hR hS hL hz h1 h2)
theorem V.ifnonnull0 (hF : Ok G F own cc nL ret) {off : Int} (hd : decode cc pc = .ok (.ifnonnull off, 3)) (kk : V G F Q kc ks (pc + 3) L st h) : V G F Q kc ks pc L (.null :: st) h :=
  fun H locs ls cells slots hR hS hL hz h1 h2 => lv_ifnonnullN hF.1 hF.2.1 hd (kk H locs ls cells slots hR hS hL hz h1 h2)
theorem V.ifnonnull1 (hF : Ok G F own cc nL ret) {off : Int} {tgt b : Nat} (hd : decode cc pc = .ok (.ifnonnull off, 3)) (ht : (pc : Int) + off = (tgt : Int)) (kk : V G F Q kc ks tgt L st h) : V G F Q kc ks pc L (.ref b :: st) h :=
  fun H locs ls cells slots hR hS hL hz h1 h2 => lv_ifnonnull hF.1 hF.2.1 hd ht (kk H locs ls cells slots hR hS hL hz h1 h2)
end M3
/-! ===== TallyWax: its state as numbers, and where it lies ===== -/
abbrev Sg : Type := (Nat → Int32) × Nat × (Nat → Int32) × (Nat → Int32) × (Nat → Nat) × ((Nat → Nat → Int32) × (Nat → Nat → Int32) × (Nat → Nat → Int32) × (Nat → Nat → Int32)) × (Nat → Int32) × Nat × Int32 × Int32
abbrev gth (σ : Sg) : Nat → Int32 := σ.1
abbrev gT (σ : Sg) : Nat := σ.2.1
abbrev gha (σ : Sg) : Nat → Int32 := σ.2.2.1
abbrev gce (σ : Sg) : Nat → Int32 := σ.2.2.2.1
abbrev gn (σ : Sg) : Nat → Nat := σ.2.2.2.2.1
abbrev gDD (σ : Sg) : Nat → Nat → Int32 := σ.2.2.2.2.2.1.1
abbrev gC (σ : Sg) : Nat → Nat → Int32 := σ.2.2.2.2.2.1.2.1
abbrev gM (σ : Sg) : Nat → Nat → Int32 := σ.2.2.2.2.2.1.2.2.1
abbrev gW (σ : Sg) : Nat → Nat → Int32 := σ.2.2.2.2.2.1.2.2.2
abbrev ghe (σ : Sg) : Nat → Int32 := σ.2.2.2.2.2.2.1
abbrev gy (σ : Sg) : Nat := σ.2.2.2.2.2.2.2.1
abbrev gme (σ : Sg) : Int32 := σ.2.2.2.2.2.2.2.2.1
abbrev gde (σ : Sg) : Int32 := σ.2.2.2.2.2.2.2.2.2
def Inj (A : Nat → Nat) (K : Nat) : Prop := ∀ i j, i < K → j < K → A i = A j → i = j
theorem Inj.ne {A : Nat → Nat} {K i j : Nat} (h : Inj A K) (hi : i < K) (hj : j < K) (hij : i ≠ j) : A i ≠ A j := fun e => hij (h i j hi hj e)
def shf (A : Nat → Nat) (T : Nat) : Nat → Option Nat := fun t => if t < T then some (A (12 + 6 * t)) else none
def TBc (h : Hp) (A : Nat → Nat) (σ : Sg) (t : Nat) : Prop := h (A (12 + 6 * t)) = some (.inr (2, [.int (gha σ t), .int (gce σ t), .ref (A (13 + 6 * t))])) ∧ LLc h (A (13 + 6 * t)) (A (14 + 6 * t)) (A (15 + 6 * t)) (A (16 + 6 * t)) (A (17 + 6 * t)) (gDD σ t) (gC σ t) (gM σ t) (gW σ t) (gn σ t) ∧ gn σ t ≤ 12
/-- the class's object, at A 0, with all that hangs on it -/
def CS (h : Hp) (A : Nat → Nat) (σ : Sg) (P : PS) (r : Nat → Int32) : Prop :=
  Inj A (12 + 6 * gT σ) ∧ gT σ ≤ 8 ∧ h (A 0) = some (.inr (3, [.ref (A 1), .ref (A 2), .ref (A 3), .ref (A 4), .ref (A 5), .int (nI (gT σ)), .int (nI (gy σ)), .int (gme σ), .int (gde σ)])) ∧
  h (A 1) = some (.inl (1, 8, .inl (gth σ))) ∧ h (A 2) = some (.inl (3, 8, .inr (.inr (.inr (.inr (shf A (gT σ))))))) ∧ h (A 3) = some (.inl (0, 10, .inl (ghe σ))) ∧
  SMc h (A 4) (A 6) (A 7) (A 8) (A 9) (A 10) (A 11) P ∧ h (A 5) = some (.inl (0, 8, .inl r)) ∧ ∀ t, t < gT σ → TBc h A σ t
theorem shf_in {A : Nat → Nat} {T t : Nat} (ht : t < T) : shf A T t = some (A (12 + 6 * t)) := if_pos ht
theorem shf_out {A : Nat → Nat} {T t : Nat} (ht : ¬ t < T) : shf A T t = none := if_neg ht
theorem nI_lit {k : Nat} {x : Int32} (e : nI k = x) : x = nI k := e.symm
theorem not_p {x : Int32} {n : Nat} (h : x < 0 ∨ nI n ≤ x) : ¬ (¬ x < 0 ∧ x < nI n) := fun q => by
  rcases h with h | h
  · exact q.1 h
  · exact absurd q.2 (Int32.not_lt.mpr h)
section Tw
variable {G : Gt} {h : Hp} {A : Nat → Nat} {σ : Sg} {P : PS} {r : Nat → Int32}
abbrev inP (x : Int32) : Prop := ¬ x < 0 ∧ x < 8
theorem inP_of {x : Int32} (hx : inP x) : ∃ p : Nat, p < 8 ∧ x = nI p := by
  rcases pk_ix x (n := 8) (by decide) with q | q | ⟨j, hj, e⟩
  · exact absurd q hx.1
  · exact absurd hx.2 (Int32.not_lt.mpr q)
  · exact ⟨j, hj, e⟩
theorem inP_nI {p : Nat} (hp : p < 8) : inP (nI p) := ⟨nI_pos (by omega), (nI_ltI (a := p) (b := 8) (by omega) (by decide)).mpr hp⟩
set_option maxHeartbeats 4000000 in
theorem c_X3_isPerson (x : Int32) : Ct G yX3_isPerson (.code yX3_isPerson cX3_isPerson 1 (some .boolean)) 0 0 0 0 [.int x] h (is_i (tf (inP x)) h) pxN := by
  refine Ct.of (by decide +kernel) (Nat.le_of_ble_eq_true rfl) fun F hF hT hN hRm => ?_
  refine V.run hF [(.iload_n 0, 1, .null)] (pc' := 1) (L' := [some (.int x)]) (st' := [.int x]) (by decide +kernel) rfl ?_
  refine V.if_lt hF (off := 13) (tgt := 14) (by decide +kernel) (by decide) (fun c1 => ?_) (fun c1 => ?_)
  · skip
    refine V.run hF [(.iconst 0, 1, .int 0)] (pc' := 15) (L' := [some (.int x)]) (st' := [.int 0]) (by decide +kernel) rfl ?_
    exact V.retz hF (by decide +kernel) rfl ⟨by rw [tf, if_neg (fun q => q.1 c1)], rfl⟩
  · skip
    refine V.run hF [(.iload_n 0, 1, .null), (.bipush 8, 2, .int (nI 8))] (pc' := 7) (L' := [some (.int x)]) (st' := [.int (nI 8), .int x]) (by decide +kernel) rfl ?_
    refine V.icmp_ge hF (off := 7) (tgt := 14) (by decide +kernel) (by decide) (fun c2 => ?_) (fun c2 => ?_)
    · skip
      refine V.run hF [(.iconst 0, 1, .int 0)] (pc' := 15) (L' := [some (.int x)]) (st' := [.int 0]) (by decide +kernel) rfl ?_
      exact V.retz hF (by decide +kernel) rfl ⟨by rw [tf, if_neg (fun q => absurd q.2 (Int32.not_lt.mpr c2))], rfl⟩
    · skip
      refine V.run hF [(.iconst 1, 1, .int 1), (.goto 4, 3, .null)] (pc' := 15) (L' := [some (.int x)]) (st' := [.int 1]) (by decide +kernel) rfl ?_
      exact V.retz hF (by decide +kernel) rfl ⟨by rw [tf, if_pos ⟨c1, Int32.not_le.mp c2⟩], rfl⟩
set_option maxHeartbeats 4000000 in
theorem c_X3_checkPerson (hG : GOk G) (x : Int32) : Ct G yX3_checkPerson (.code yX3_checkPerson cX3_checkPerson 1 none) 6 82 1 6 [.int x] h (is_v fun h' => inP x ∧ h' = h) (fun E h' => E = "java/lang/IndexOutOfBoundsException" ∧ ¬ inP x ∧ h' = h) := by
  refine Ct.of (by decide +kernel) (Nat.le_of_ble_eq_true rfl) fun F hF hT hN hRm => ?_
  refine V.run hF [(.iload_n 0, 1, .null)] (pc' := 1) (L' := [some (.int x)]) (st' := [.int x]) (by decide +kernel) rfl ?_
  refine V.callS (As := [.int x]) (st := []) hG hF k_RX3_226 (by decide +kernel) (c_X3_isPerson x) rfl ⟨by rw [hRm]; decide, by rw [hRm]; decide⟩ (Nat.le_of_ble_eq_true rfl) rfl (fun v h_1 gp1 => ?_) (fun E h9 hx => hx.elim)
  obtain ⟨rfl, he_gp1⟩ := gp1
  rw [he_gp1]
  show V G F _ _ _ 4 [some (.int x)] [.int (tf (inP x))] h
  refine V.if_ne hF (off := 13) (tgt := 17) (by decide +kernel) (by decide) (fun c1 => ?_) (fun c1 => ?_)
  · have hx : inP x := by
      by_cases q : inP x
      · exact q
      · rw [tf, if_neg q] at c1; exact absurd rfl c1
    exact V.retv hF (by decide +kernel) ⟨rfl, hx, rfl⟩
  · skip
    have hx : ¬ inP x := fun q => by
      rw [tf, if_pos q] at c1; cases c1
    exact V.throwS hG hF hT kt_RX3_229 (by decide +kernel) (by decide +kernel) (by decide +kernel) (by decide +kernel) (by decide +kernel) ⟨by rw [hRm]; decide, by rw [hRm]; decide⟩ ⟨rfl, hx, rfl⟩
/-- a person: nothing is thrown, no room is wanted -/
theorem c_X3_checkPerson_ok (hG : GOk G) {x : Int32} (hx : inP x) : Ct G yX3_checkPerson (.code yX3_checkPerson cX3_checkPerson 1 none) 1 20 0 0 [.int x] h (is_v fun h' => h' = h) pxN := by
  refine Ct.of (by decide +kernel) (Nat.le_of_ble_eq_true rfl) fun F hF hT hN hRm => ?_
  refine V.run hF [(.iload_n 0, 1, .null)] (pc' := 1) (L' := [some (.int x)]) (st' := [.int x]) (by decide +kernel) rfl ?_
  refine V.callS (As := [.int x]) (st := []) hG hF k_RX3_226 (by decide +kernel) (c_X3_isPerson x) rfl ⟨by rw [hRm]; decide, by rw [hRm]; decide⟩ (Nat.le_of_ble_eq_true rfl) rfl (fun v h_1 gp1 => ?_) (fun E h9 hx => hx.elim)
  obtain ⟨rfl, he_gp1⟩ := gp1
  rw [he_gp1]
  show V G F _ _ _ 4 [some (.int x)] [.int (tf (inP x))] h
  refine V.if_ne hF (off := 13) (tgt := 17) (by decide +kernel) (by decide) (fun c1 => ?_) (fun c1 => ?_)
  · skip
    exact V.retv hF (by decide +kernel) ⟨rfl, rfl⟩
  · skip
    rw [tf, if_pos hx] at c1
    cases c1
abbrev inY (x : Int32) : Prop := ¬ x < 1 ∧ x ≤ 40
set_option maxHeartbeats 4000000 in
theorem c_X3_checkYears (hG : GOk G) (x : Int32) : Ct G yX3_checkYears (.code yX3_checkYears cX3_checkYears 1 none) 6 82 1 6 [.int x] h (is_v fun h' => inY x ∧ h' = h) (fun E h' => E = "java/lang/IllegalArgumentException" ∧ ¬ inY x ∧ h' = h) := by
  refine Ct.of (by decide +kernel) (Nat.le_of_ble_eq_true rfl) fun F hF hT hN hRm => ?_
  refine V.run hF [(.iload_n 0, 1, .null), (.iconst 1, 1, .int 1)] (pc' := 2) (L' := [some (.int x)]) (st' := [.int 1, .int x]) (by decide +kernel) rfl ?_
  refine V.icmp_lt hF (off := 9) (tgt := 11) (by decide +kernel) (by decide) (fun c1 => ?_) (fun c1 => ?_)
  · skip
    exact V.throwS hG hF hT kt_RX3_231 (by decide +kernel) (by decide +kernel) (by decide +kernel) (by decide +kernel) (by decide +kernel) ⟨by rw [hRm]; decide, by rw [hRm]; decide⟩ ⟨rfl, fun q => q.1 c1, rfl⟩
  · skip
    refine V.run hF [(.iload_n 0, 1, .null), (.bipush 40, 2, .int (nI 40))] (pc' := 8) (L' := [some (.int x)]) (st' := [.int (nI 40), .int x]) (by decide +kernel) rfl ?_
    refine V.icmp_le hF (off := 13) (tgt := 21) (by decide +kernel) (by decide) (fun c2 => ?_) (fun c2 => ?_)
    · skip
      exact V.retv hF (by decide +kernel) ⟨rfl, ⟨c1, c2⟩, rfl⟩
    · skip
      exact V.throwS hG hF hT kt_RX3_231 (by decide +kernel) (by decide +kernel) (by decide +kernel) (by decide +kernel) (by decide +kernel) ⟨by rw [hRm]; decide, by rw [hRm]; decide⟩ ⟨rfl, fun q => c2 q.2, rfl⟩
set_option maxHeartbeats 4000000 in
theorem c_X3_isPresent (hG : GOk G) (hC : CS h A σ P r) (x : Int32) : Ct G yX3_isPresent (.code yX3_isPresent cX3_isPresent 2 (some .boolean)) 1 20 0 0 [.ref (A 0), .int x] h (is_i (tf (inP x ∧ ¬ gth σ x.toNatClampNeg = 0)) h) pxN := by
  refine Ct.of (by decide +kernel) (Nat.le_of_ble_eq_true rfl) fun F hF hT hN hRm => ?_
  obtain ⟨hI, hT8, hA, h1, h2, h3, h4, h5, h6⟩ := hC
  refine V.run hF [(.iload_n 1, 1, .null)] (pc' := 1) (L' := [some (.ref (A 0)), some (.int x)]) (st' := [.int x]) (by decide +kernel) rfl ?_
  refine V.callS (As := [.int x]) (st := []) hG hF k_RX3_226 (by decide +kernel) (c_X3_isPerson x) rfl ⟨by rw [hRm]; decide, by rw [hRm]; decide⟩ (Nat.le_of_ble_eq_true rfl) rfl (fun v h_1 gp1 => ?_) (fun E h9 hx => hx.elim)
  obtain ⟨rfl, he_gp1⟩ := gp1
  rw [he_gp1]
  show V G F _ _ _ 4 [some (.ref (A 0)), some (.int x)] [.int (tf (inP x))] h
  refine V.if_eq hF (off := 16) (tgt := 20) (by decide +kernel) (by decide) (fun c1 => ?_) (fun c1 => ?_)
  · skip
    refine V.run hF [(.iconst 0, 1, .int 0)] (pc' := 21) (L' := [some (.ref (A 0)), some (.int x)]) (st' := [.int 0]) (by decide +kernel) rfl ?_
    have hx : ¬ inP x := fun q => by
      rw [tf, if_pos q] at c1; cases c1
    exact V.retz hF (by decide +kernel) rfl ⟨by rw [tf, if_neg (fun q => hx q.1)], rfl⟩
  · skip
    have hx : inP x := by
      by_cases q : inP x
      · exact q
      · rw [tf, if_neg q] at c1; exact absurd rfl c1
    obtain ⟨p, hp, ep⟩ := inP_of hx
    have hin : vp_in x 8 := by rw [ep]; exact vp_in_nI hp (by decide)
    refine V.run hF [(.aload_n 0, 1, .null)] (pc' := 8) (L' := [some (.ref (A 0)), some (.int x)]) (st' := [.ref (A 0)]) (by decide +kernel) rfl ?_
    refine V.getf hG hF k_RX3_9 (by decide +kernel) hA rfl ?_
    refine V.run hF [(.iload_n 1, 1, .null)] (pc' := 12) (L' := [some (.ref (A 0)), some (.int x)]) (st' := [.int x, .ref (A 1)]) (by decide +kernel) rfl ?_
    refine V.zald hG hF (by decide +kernel) h1 (by assumption) ?_
    refine V.if_eq hF (off := 7) (tgt := 20) (by decide +kernel) (by decide) (fun c2 => ?_) (fun c2 => ?_)
    · skip
      refine V.run hF [(.iconst 0, 1, .int 0)] (pc' := 21) (L' := [some (.ref (A 0)), some (.int x)]) (st' := [.int 0]) (by decide +kernel) rfl ?_
      exact V.retz hF (by decide +kernel) rfl ⟨by rw [tf, if_neg (fun q => q.2 c2)], rfl⟩
    · skip
      refine V.run hF [(.iconst 1, 1, .int 1), (.goto 4, 3, .null)] (pc' := 21) (L' := [some (.ref (A 0)), some (.int x)]) (st' := [.int 1]) (by decide +kernel) rfl ?_
      exact V.retz hF (by decide +kernel) rfl ⟨by rw [tf, if_pos ⟨hx, c2⟩], rfl⟩
set_option maxHeartbeats 4000000 in
theorem c_X3_tabletAt (hG : GOk G) (hC : CS h A σ P r) (x : Int32) : Ct G yX3_tabletAt (.code yX3_tabletAt cX3_tabletAt 3 (some (.object "TallyWax$Tablet"))) 6 82 1 6 [.ref (A 0), .int x] h
    (fun v h' => (∃ t, t < gT σ ∧ x = nI t ∧ v = some (.ref (A (12 + 6 * t)))) ∧ h' = h) (fun E h' => E = "java/lang/IndexOutOfBoundsException" ∧ (x < 0 ∨ nI (gT σ) ≤ x) ∧ h' = h) := by
  refine Ct.of (by decide +kernel) (Nat.le_of_ble_eq_true rfl) fun F hF hT hN hRm => ?_
  obtain ⟨hI, hT8, hA, h1, h2, h3, h4, h5, h6⟩ := hC
  refine V.run hF [(.iload_n 1, 1, .null)] (pc' := 1) (L' := [some (.ref (A 0)), some (.int x), none]) (st' := [.int x]) (by decide +kernel) rfl ?_
  refine V.if_lt hF (off := 9) (tgt := 10) (by decide +kernel) (by decide) (fun c1 => ?_) (fun c1 => ?_)
  · skip
    exact V.throwS hG hF hT kt_RX3_222 (by decide +kernel) (by decide +kernel) (by decide +kernel) (by decide +kernel) (by decide +kernel) ⟨by rw [hRm]; decide, by rw [hRm]; decide⟩ ⟨rfl, Or.inl c1, rfl⟩
  · skip
    refine V.run hF [(.iload_n 1, 1, .null), (.bipush 8, 2, .int (nI 8))] (pc' := 7) (L' := [some (.ref (A 0)), some (.int x), none]) (st' := [.int (nI 8), .int x]) (by decide +kernel) rfl ?_
    refine V.icmp_lt hF (off := 13) (tgt := 20) (by decide +kernel) (by decide) (fun c2 => ?_) (fun c2 => ?_)
    · obtain ⟨t, ht, rfl⟩ := inP_of ⟨c1, c2⟩
      refine V.run hF [(.aload_n 0, 1, .null)] (pc' := 21) (L' := [some (.ref (A 0)), some (.int (nI t)), none]) (st' := [.ref (A 0)]) (by decide +kernel) rfl ?_
      refine V.getf hG hF k_RX3_15 (by decide +kernel) hA rfl ?_
      refine V.run hF [(.iload_n 1, 1, .null)] (pc' := 25) (L' := [some (.ref (A 0)), some (.int (nI t)), none]) (st' := [.int (nI t), .ref (A 2)]) (by decide +kernel) rfl ?_
      by_cases hc : t < gT σ
      · skip
        refine V.aaldS (j := t) (b := (A (12 + 6 * t))) hG hF (by decide +kernel) h2 (by omega) (by decide) (shf_in hc) ?_
        refine V.run hF [(.astore_n 2, 1, .null), (.aload_n 2, 1, .null)] (pc' := 28) (L' := [some (.ref (A 0)), some (.int (nI t)), some (.ref (A (12 + 6 * t)))]) (st' := [.ref (A (12 + 6 * t))]) (by decide +kernel) rfl ?_
        refine V.ifnonnull1 hF (off := 13) (tgt := 41) (by decide +kernel) (by decide) ?_
        refine V.run hF [(.aload_n 2, 1, .null)] (pc' := 42) (L' := [some (.ref (A 0)), some (.int (nI t)), some (.ref (A (12 + 6 * t)))]) (st' := [.ref (A (12 + 6 * t))]) (by decide +kernel) rfl ?_
        exact V.reta hF (by decide +kernel) ⟨⟨t, hc, rfl, rfl⟩, rfl⟩
      · skip
        refine V.aaldZ (j := t) hG hF (by decide +kernel) h2 (by omega) (by decide) (shf_out hc) ?_
        refine V.run hF [(.astore_n 2, 1, .null), (.aload_n 2, 1, .null)] (pc' := 28) (L' := [some (.ref (A 0)), some (.int (nI t)), some (.null)]) (st' := [.null]) (by decide +kernel) rfl ?_
        refine V.ifnonnull0 hF (off := 13) (by decide +kernel) ?_
        exact V.throwS hG hF hT kt_RX3_222 (by decide +kernel) (by decide +kernel) (by decide +kernel) (by decide +kernel) (by decide +kernel) ⟨by rw [hRm]; decide, by rw [hRm]; decide⟩ ⟨rfl, Or.inr ((nI_leI (by omega) (by omega)).mpr (by omega)), rfl⟩
    · skip
      exact V.throwS hG hF hT kt_RX3_222 (by decide +kernel) (by decide +kernel) (by decide +kernel) (by decide +kernel) (by decide +kernel) ⟨by rw [hRm]; decide, by rw [hRm]; decide⟩ ⟨rfl, Or.inr (Int32.le_trans ((nI_leI (a := gT σ) (b := 8) (by omega) (by decide)).mpr hT8) (Int32.not_lt.mp c2)), rfl⟩
end Tw
end
section
/-! ===== TallyWax: private helpers ===== -/
abbrev eI : String := "java/lang/IndexOutOfBoundsException"
abbrev eA : String := "java/lang/IllegalArgumentException"
abbrev eS : String := "java/lang/IllegalStateException"
def okT (σ : Sg) (x : Int32) : Prop := ∃ t, t < gT σ ∧ x = nI t
def okL (σ : Sg) (x y : Int32) : Prop := ∃ t l, t < gT σ ∧ l < gn σ t ∧ x = nI t ∧ y = nI l
theorem okT_no {σ : Sg} {x : Int32} (h8 : gT σ ≤ 8) (h : x < 0 ∨ nI (gT σ) ≤ x) : ¬ okT σ x := by
  rintro ⟨t, ht, rfl⟩
  rcases h with h | h
  · exact nI_pos (by omega) h
  · exact absurd ((nI_leI (by omega) (by omega)).mp h) (by omega)
/-- a JDK method of a class of which some methods are native or replaced, this one not -/
theorem Ct.ofJ {G : Gt} {y : MethodName} {cc : ByteArray} {nL rf rl mc ms : Nat} {re : Option FieldType} {As : List Value} {h : Hp} {po : Option Value → Hp → Prop} {px : String → Hp → Prop} (hy : plainFor y = true) (hlen : (lg_sl As).length ≤ nL)
    (body : ∀ F : Ft, Ok G F y.cls cc nL re → NoTab F → (fMe F).name = y.name → fR F = { frames := rf, cells := mc, slots := ms, locals := rl } → V G F (fin G F po px) mc ms 0 (entL nL As) [] h) : Ct G y (.code y cc nL re) rf rl mc ms As h po px := by
  refine MetFree.of_bodySF (code := cc) (maxLocals := nL) (ret := re) hy ?_ ?_
  · intro args s m h hn
    obtain ⟨meth, c, h1, h2, h3, h4, h5, h6, -, -⟩ := Cond.code_spec hn (atoms_spec (ws := [Cond.code y cc nL re]) h _ List.mem_cons_self)
    exact ⟨meth, c, h1, h2, h3, h4, h5, h6⟩
  · intro p e s m args below meth c s₁ B hml hP _
    have hh0 : s₁.heap = s.heap := by rw [B.state]; rfl
    have ht : ∀ x ∈ c.exceptionTable.toList, False := by
      obtain ⟨meth9, c9, h1, h2, -, -, -, -, h7, -⟩ := Cond.code_spec B.named (atoms_spec (ws := [Cond.code y cc nL re]) B.pre _ List.mem_cons_self)
      cases Option.some.inj (h1.symm.trans B.method)
      cases Option.some.inj (h2.symm.trans (Stand.of_body B).code)
      intro x hx
      rw [Array.isEmpty_iff.mp h7] at hx
      cases hx
    obtain ⟨rfl, hst, hR⟩ := hP
    have k := body (p, e, { frames := rf, cells := mc, slots := ms, locals := rl }, s, m, As.toArray, below, meth, c) ⟨B.exec, B.bytes, hml, B.returns, findClass_of_methodNamed B.named, B.notSynchronized, hst⟩ ht (name_of_methodNamed B.named B.method).1 rfl
    have kk := k s.heap [] _ 0 0 hR va_S.rf (entL_LR hlen) ((entL_sz hlen).trans hml.symm) (Nat.le_of_eq (Nat.zero_add _)) (Nat.le_of_eq (Nat.zero_add _))
    have kk2 : W p G.1 e { frames := rf, cells := mc, slots := ms, locals := rl } s m As.toArray below meth c s.heap [] 0 0 (vx_MQ below (cQ G po) (cX G px) As.toArray s mc ms (gF G)) (entryFrame m As.toArray nL) := by
      rw [lg_entry_eq]
      exact kk
    obtain ⟨t, a1, o, b1, b2, b3⟩ := kk2 s₁ hh0 (Stand.of_body B)
    exact ⟨t, o, a1, b1, b2, b3⟩
section Hl
variable {G : Gt} {h : Hp} {A : Nat → Nat} {σ : Sg} {P : PS} {r : Nat → Int32}
set_option maxHeartbeats 4000000 in
theorem c_X3_linesWith (hG : GOk G) (hC : CS h A σ P r) (x y : Int32) : Ct G yX3_linesWith (.code yX3_linesWith cX3_linesWith 4 (some (.object "TallyWax$LineList"))) 7 104 2 12 [.ref (A 0), .int x, .int y] h
    (fun v h' => (∃ t l, t < gT σ ∧ l < gn σ t ∧ x = nI t ∧ y = nI l ∧ v = some (.ref (A (13 + 6 * t)))) ∧ h' = h) (fun E h' => E = eI ∧ ¬ okL σ x y ∧ h' = h) := by
  refine Ct.of (by decide +kernel) (Nat.le_of_ble_eq_true rfl) fun F hF hT hN hRm => ?_
  obtain ⟨hI, hT8, hA, h1, h2, h3, h4, h5, h6⟩ := id hC
  refine V.run hF [(.aload_n 0, 1, .null), (.iload_n 1, 1, .null)] (pc' := 2) (L' := [some (.ref (A 0)), some (.int x), some (.int y), none]) (st' := [.int x, .ref (A 0)]) (by decide +kernel) rfl ?_
  refine V.callV (As := [.int x]) (st := []) hG hF k_RX3_52 (by decide +kernel) (c_X3_tabletAt hG hC x) hA rfl rfl ⟨by rw [hRm]; decide, by rw [hRm]; decide⟩ (Nat.le_of_ble_eq_true rfl) rfl (fun v h1' hp => ?_) (fun E h9 hx => VX.out hF hT ⟨hx.1, fun q => okT_no hT8 hx.2.1 (by obtain ⟨t, l, e1, -, e2, -⟩ := q; exact ⟨t, e1, e2⟩), hx.2.2⟩)
  obtain ⟨⟨t, ht, rfl, rfl⟩, he⟩ := hp
  rw [he]
  obtain ⟨t1, t2, t3⟩ := h6 t ht
  show V G F _ _ _ 5 [some (.ref (A 0)), some (.int (nI t)), some (.int y), none] [.ref (A (12 + 6 * t))] h
  refine V.getf hG hF k_RX3_56 (by decide +kernel) t1 rfl ?_
  refine V.run hF [(.astore_n 3, 1, .null), (.iload_n 2, 1, .null)] (pc' := 10) (L' := [some (.ref (A 0)), some (.int (nI t)), some (.int y), some (.ref (A (13 + 6 * t)))]) (st' := [.int y]) (by decide +kernel) rfl ?_
  have hno : (y < 0 ∨ nI (gn σ t) ≤ y) → ¬ okL σ (nI t) y := by
    rintro h ⟨t', l, e1, e2, e3, rfl⟩
    obtain rfl : t = t' := (nI_eq (by omega) (by omega)).mp e3
    rcases h with h | h
    · exact nI_pos (by omega) h
    · exact absurd ((nI_leI (by omega) (by omega)).mp h) (by omega)
  refine V.if_lt hF (off := 11) (tgt := 21) (by decide +kernel) (by decide) (fun c1 => ?_) (fun c1 => ?_)
  · skip
    exact V.throwS hG hF hT kt_RX3_224 (by decide +kernel) (by decide +kernel) (by decide +kernel) (by decide +kernel) (by decide +kernel) ⟨by rw [hRm]; decide, by rw [hRm]; decide⟩ ⟨rfl, hno (Or.inl c1), rfl⟩
  · skip
    refine V.run hF [(.iload_n 2, 1, .null), (.aload_n 3, 1, .null)] (pc' := 15) (L' := [some (.ref (A 0)), some (.int (nI t)), some (.int y), some (.ref (A (13 + 6 * t)))]) (st' := [.ref (A (13 + 6 * t)), .int y]) (by decide +kernel) rfl ?_
    refine V.getf hG hF k_RX3_67 (by decide +kernel) t2.1 rfl ?_
    refine V.icmp_lt hF (off := 13) (tgt := 31) (by decide +kernel) (by decide) (fun c2 => ?_) (fun c2 => ?_)
    · skip
      refine V.run hF [(.aload_n 3, 1, .null)] (pc' := 32) (L' := [some (.ref (A 0)), some (.int (nI t)), some (.int y), some (.ref (A (13 + 6 * t)))]) (st' := [.ref (A (13 + 6 * t))]) (by decide +kernel) rfl ?_
      obtain ⟨l, hl, rfl⟩ : ∃ l, l < gn σ t ∧ y = nI l := by
        rcases pk_ix y (n := gn σ t) (by omega) with q | q | ⟨j, hj, e⟩
        · exact absurd q c1
        · exact absurd c2 (Int32.not_lt.mpr q)
        · exact ⟨j, hj, e⟩
      exact V.reta hF (by decide +kernel) ⟨⟨t, l, ht, hl, rfl, rfl, rfl⟩, rfl⟩
    · skip
      exact V.throwS hG hF hT kt_RX3_224 (by decide +kernel) (by decide +kernel) (by decide +kernel) (by decide +kernel) (by decide +kernel) ⟨by rw [hRm]; decide, by rw [hRm]; decide⟩ ⟨rfl, hno (Or.inr (Int32.not_lt.mp c2)), rfl⟩
set_option maxHeartbeats 4000000 in
theorem c_X3_holds (x y : Int32) : Ct G yX3_holds (.code yX3_holds cX3_holds 2 (some .boolean)) 0 0 0 0 [.int x, .int y] h (is_i (tf (¬ (x >>> (y &&& 31)) &&& 1 = 0)) h) pxN := by
  refine Ct.of (by decide +kernel) (Nat.le_of_ble_eq_true rfl) fun F hF hT hN hRm => ?_
  refine V.run hF [(.iload_n 0, 1, .null), (.iload_n 1, 1, .null), (.ishr, 1, .null), (.iconst 1, 1, .int 1), (.iand, 1, .null)] (pc' := 5) (L' := [some (.int x), some (.int y)]) (st' := [.int ((x >>> (y &&& 31)) &&& 1)]) (by decide +kernel) rfl ?_
  refine V.if_eq hF (off := 7) (tgt := 12) (by decide +kernel) (by decide) (fun c1 => ?_) (fun c1 => ?_)
  · skip
    refine V.run hF [(.iconst 0, 1, .int 0)] (pc' := 13) (L' := [some (.int x), some (.int y)]) (st' := [.int 0]) (by decide +kernel) rfl ?_
    exact V.retz hF (by decide +kernel) rfl ⟨by rw [tf, if_neg (fun q => q c1)], rfl⟩
  · skip
    refine V.run hF [(.iconst 1, 1, .int 1), (.goto 4, 3, .null)] (pc' := 13) (L' := [some (.int x), some (.int y)]) (st' := [.int 1]) (by decide +kernel) rfl ?_
    exact V.retz hF (by decide +kernel) rfl ⟨by rw [tf, if_pos c1], rfl⟩
theorem xor_nn {x y : Int32} (hx : 0 ≤ x.toInt) (hy : 0 ≤ y.toInt) : 0 ≤ (x ^^^ y).toInt := by
  have hx' : x.toBitVec.msb = false := by
    rw [BitVec.msb_eq_toInt]
    exact decide_eq_false (Int.not_lt.mpr hx)
  have hy' : y.toBitVec.msb = false := by
    rw [BitVec.msb_eq_toInt]
    exact decide_eq_false (Int.not_lt.mpr hy)
  have h : (x.toBitVec ^^^ y.toBitVec).msb = false := by
    rw [BitVec.msb_xor, hx', hy']
    rfl
  rw [BitVec.msb_eq_toInt] at h
  exact Int.not_lt.mp (of_decide_eq_false h)
set_option maxHeartbeats 4000000 in
theorem c_J_floorMod {a d : Nat} (ha : a < 2 ^ 31) (h0 : 0 < d) (hd : d < 2 ^ 31) : Ct G yJ9_floorMod_7cf53 (.code yJ9_floorMod_7cf53 cJ9_floorMod_7cf53 3 (some .int)) 0 0 0 0 [.int (nI a), .int (nI d)] h (is_i (nI (a % d)) h) pxN := by
  refine Ct.ofJ (by decide +kernel) (Nat.le_of_ble_eq_true rfl) fun F hF hT hN hRm => ?_
  refine V.run hF [(.iload_n 0, 1, .null), (.iload_n 1, 1, .null)] (pc' := 2) (L' := [some (.int (nI a)), some (.int (nI d)), none]) (st' := [.int (nI d), .int (nI a)]) (by decide +kernel) rfl ?_
  refine V.irem hF (by decide +kernel) (fun q => by have := nI_ne0 h0 hd; exact this q) ?_
  rw [pk_rem ha h0 hd]
  refine V.run hF [(.istore_n 2, 1, .null), (.iload_n 0, 1, .null), (.iload_n 1, 1, .null), (.ixor, 1, .null)] (pc' := 7) (L' := [some (.int (nI a)), some (.int (nI d)), some (.int (nI (a % d)))]) (st' := [.int (nI a ^^^ nI d)]) (by decide +kernel) rfl ?_
  refine V.if_ge hF (off := 11) (tgt := 18) (by decide +kernel) (by decide) (fun c1 => ?_) (fun c1 => ?_)
  · skip
    refine V.run hF [(.iload_n 2, 1, .null)] (pc' := 19) (L' := [some (.int (nI a)), some (.int (nI d)), some (.int (nI (a % d)))]) (st' := [.int (nI (a % d))]) (by decide +kernel) rfl ?_
    exact V.reti hF (by decide +kernel) ⟨rfl, rfl⟩
  · skip
    exact absurd (by rw [Int32.le_iff_toInt_le, Int32.toInt_zero]; exact xor_nn (by rw [nI_toInt ha]; omega) (by rw [nI_toInt hd]; omega)) c1
abbrev heatAt (σ : Sg) (k : Nat) : Int32 := ghe σ ((gy σ + k) % 10)
set_option maxHeartbeats 4000000 in
theorem c_X3_heatAfter (hG : GOk G) (hC : CS h A σ P r) {k : Nat} (hk : gy σ + k < 2 ^ 31) : Ct G yX3_heatAfter (.code yX3_heatAfter cX3_heatAfter 2 (some .int)) 1 22 0 0 [.ref (A 0), .int (nI k)] h (is_i (heatAt σ k) h) pxN := by
  refine Ct.of (by decide +kernel) (Nat.le_of_ble_eq_true rfl) fun F hF hT hN hRm => ?_
  obtain ⟨hI, hT8, hA, h1, h2, h3, h4, h5, h6⟩ := id hC
  refine V.run hF [(.aload_n 0, 1, .null)] (pc' := 1) (L' := [some (.ref (A 0)), some (.int (nI k))]) (st' := [.ref (A 0)]) (by decide +kernel) rfl ?_
  refine V.getf hG hF k_RX3_19 (by decide +kernel) hA rfl ?_
  refine V.run hF [(.aload_n 0, 1, .null)] (pc' := 5) (L' := [some (.ref (A 0)), some (.int (nI k))]) (st' := [.ref (A 0), .ref (A 3)]) (by decide +kernel) rfl ?_
  refine V.getf hG hF k_RX3_143 (by decide +kernel) hA rfl ?_
  refine V.run hF [(.iload_n 1, 1, .null), (.iadd, 1, .null)] (pc' := 10) (L' := [some (.ref (A 0)), some (.int (nI k))]) (st' := [.int (nI (gy σ) + nI k), .ref (A 3)]) (by decide +kernel) rfl ?_
  rw [nI_add]
  refine V.run hF [(.bipush 10, 2, .int (nI 10))] (pc' := 12) (L' := [some (.ref (A 0)), some (.int (nI k))]) (st' := [.int (nI 10), .int (nI (gy σ + k)), .ref (A 3)]) (by decide +kernel) rfl ?_
  refine V.callS (As := [.int (nI (gy σ + k)), .int (nI 10)]) (st := [.ref (A 3)]) hG hF k_RX3_239 (by decide +kernel) (c_J_floorMod hk (by decide) (by decide)) rfl ⟨by rw [hRm]; decide, by rw [hRm]; decide⟩ (Nat.le_of_ble_eq_true rfl) rfl (fun v h_1 gp1 => ?_) (fun E h9 hx => hx.elim)
  obtain ⟨rfl, he_gp1⟩ := gp1
  rw [he_gp1]
  show V G F _ _ _ 15 [some (.ref (A 0)), some (.int (nI k))] [.int (nI ((gy σ + k) % 10)), .ref (A 3)] h
  refine V.ialdN (j := (gy σ + k) % 10) hG hF (by decide +kernel) h3 (Nat.mod_lt _ (by decide)) (by decide) ?_
  exact V.reti hF (by decide +kernel) ⟨rfl, rfl⟩
/-- in how many years tablet t melts, from the k-th on -/
def ytm (σ : Sg) (t : Nat) : Nat → Nat → Int32
  | 0, _ => -1
  | f + 1, k => if gce σ t = 0 ∧ gha σ t < heatAt σ k then nI (k + 1) else ytm σ t f (k + 1)
set_option maxHeartbeats 4000000 in
theorem c_X3_yearsLeftOf (hG : GOk G) (hC : CS h A σ P r) (hy : gy σ < 2 ^ 30) {t : Nat} (ht : t < gT σ) : Ct G yX3_yearsLeftOf (.code yX3_yearsLeftOf cX3_yearsLeftOf 3 (some .int)) 2 43 0 0 [.ref (A 0), .ref (A (12 + 6 * t))] h (is_i (ytm σ t 10 0) h) pxN := by
  refine Ct.of (by decide +kernel) (Nat.le_of_ble_eq_true rfl) fun F hF hT hN hRm => ?_
  obtain ⟨hI, hT8, hA, h1, h2, h3, h4, h5, h6⟩ := id hC
  obtain ⟨t1, t2, t3⟩ := h6 t ht
  have loop : ∀ k, k ≤ 10 → V G F (fin G F (is_i (ytm σ t (10 - k) k) h) pxN) 0 0 2 [some (.ref (A 0)), some (.ref (A (12 + 6 * t))), some (.int (nI k))] [] h := by
    refine lp_up 10 fun k hk ih => ?_
    refine V.run hF [(.iload_n 2, 1, .null), (.bipush 10, 2, .int (nI 10))] (pc' := 5) (L' := [some (.ref (A 0)), some (.ref (A (12 + 6 * t))), some (.int (nI k))]) (st' := [.int (nI 10), .int (nI k)]) (by decide +kernel) rfl ?_
    refine V.icmpN_ge (i := k) (j := 10) hF (off := 25) (tgt := 30) (by decide +kernel) (by decide) (by omega) (by omega) (fun c1 => ?_) (fun c1 => ?_)
    · have ek : 10 - k = 0 := by omega
      refine V.run hF [(.iconst (-1), 1, .int (-1))] (pc' := 31) (L' := [some (.ref (A 0)), some (.ref (A (12 + 6 * t))), some (.int (nI k))]) (st' := [.int (-1)]) (by decide +kernel) rfl ?_
      exact V.reti hF (by decide +kernel) ⟨by rw [ek]; rfl, rfl⟩
    · skip
      have e8 : 10 - k = (10 - (k + 1)) + 1 := by omega
      refine V.run hF [(.aload_n 1, 1, .null), (.aload_n 0, 1, .null), (.iload_n 2, 1, .null)] (pc' := 11) (L' := [some (.ref (A 0)), some (.ref (A (12 + 6 * t))), some (.int (nI k))]) (st' := [.int (nI k), .ref (A 0), .ref (A (12 + 6 * t))]) (by decide +kernel) rfl ?_
      refine V.callV (As := [.int (nI k)]) (st := [.ref (A (12 + 6 * t))]) hG hF k_RX3_233 (by decide +kernel) (c_X3_heatAfter hG hC (k := k) (by omega)) hA rfl rfl ⟨by rw [hRm]; decide, by rw [hRm]; decide⟩ (Nat.le_of_ble_eq_true rfl) rfl (fun v h_1 gp1 => ?_) (fun E h9 hx => hx.elim)
      obtain ⟨rfl, he_gp1⟩ := gp1
      rw [he_gp1]
      show V G F _ _ _ 14 [some (.ref (A 0)), some (.ref (A (12 + 6 * t))), some (.int (nI k))] [.int (heatAt σ k), .ref (A (12 + 6 * t))] h
      refine V.callVN (As := [.int (heatAt σ k)]) (st := []) hG hF k_RX3_236 (by decide +kernel) (c_X2_meltsAt hG t1) t1 rfl rfl ⟨by rw [hRm]; decide, by rw [hRm]; decide⟩ (Nat.le_of_ble_eq_true rfl) rfl (fun v h_2 gp2 => ?_)
      obtain ⟨rfl, he_gp2⟩ := gp2
      rw [he_gp2]
      show V G F _ _ _ 17 [some (.ref (A 0)), some (.ref (A (12 + 6 * t))), some (.int (nI k))] [.int (tf (gce σ t = 0 ∧ gha σ t < heatAt σ k))] h
      refine V.if_eq hF (off := 7) (tgt := 24) (by decide +kernel) (by decide) (fun c2 => ?_) (fun c2 => ?_)
      · have q : ¬ (gce σ t = 0 ∧ gha σ t < heatAt σ k) := fun q => by
          rw [tf, if_pos q] at c2; cases c2
        refine V.run hF [(.iinc 2 1, 3, .int 1), (.goto (-25), 3, .null)] (pc' := 2) (L' := [some (.ref (A 0)), some (.ref (A (12 + 6 * t))), some (.int ((nI k) + 1))]) (st' := []) (by decide +kernel) rfl ?_
        rw [nI_1 k]
        rw [e8, ytm, if_neg q]
        exact ih c1
      · skip
        have q : gce σ t = 0 ∧ gha σ t < heatAt σ k := by
          by_cases q : gce σ t = 0 ∧ gha σ t < heatAt σ k
          · exact q
          · rw [tf, if_neg q] at c2; exact absurd rfl c2
        refine V.run hF [(.iload_n 2, 1, .null), (.iconst 1, 1, .int 1), (.iadd, 1, .null)] (pc' := 23) (L' := [some (.ref (A 0)), some (.ref (A (12 + 6 * t))), some (.int (nI k))]) (st' := [.int (nI k + 1)]) (by decide +kernel) rfl ?_
        exact V.reti hF (by decide +kernel) ⟨by rw [e8, ytm, if_pos q, nI_1], rfl⟩
  refine V.run hF [(.iconst 0, 1, .int 0), (.istore_n 2, 1, .null)] (pc' := 2) (L' := [some (.ref (A 0)), some (.ref (A (12 + 6 * t))), some (.int 0)]) (st' := []) (by decide +kernel) rfl ?_
  exact loop 0 (Nat.zero_le _)
/-- over all tablets -/
def balT (σ : Sg) (p : Int32) : Nat → Int32
  | 0 => 0
  | t + 1 => balT σ p t + bal (gDD σ t) (gC σ t) (gM σ t) p (gn σ t)
def cbT (σ : Sg) (p : Int32) : Nat → Int32
  | 0 => 0
  | t + 1 => cbT σ p t ||| cbits (gDD σ t) (gC σ t) p (gn σ t)
theorem min_s {i T : Nat} (h : i < T) : min (i + 1) T = min i T + 1 ∧ min i T = i := by omega
theorem min_e {i T : Nat} (h : ¬ i < T) : min (i + 1) T = min i T := by omega
set_option maxHeartbeats 4000000 in
theorem c_X3_balanceOf (hG : GOk G) (hC : CS h A σ P r) (p : Int32) : Ct G yX3_balanceOf (.code yX3_balanceOf cX3_balanceOf 7 (some .int)) 1 23 0 0 [.ref (A 0), .int p] h (is_i (balT σ p (gT σ)) h) pxN := by
  refine Ct.of (by decide +kernel) (Nat.le_of_ble_eq_true rfl) fun F hF hT hN hRm => ?_
  obtain ⟨hI, hT8, hA, h1, h2, h3, h4, h5, h6⟩ := id hC
  have loop : ∀ i, i ≤ 8 → V G F (fin G F (is_i (balT σ p (gT σ)) h) pxN) 0 0 14 [some (.ref (A 0)), some (.int p), some (.int (balT σ p (min i (gT σ)))), some (.ref (A 2)), some (.int (nI 8)), some (.int (nI i)), none] [] h := by
    refine lp_up 8 fun i hi ih => ?_
    refine V.run hF [(.iload 5, 2, .null), (.iload 4, 2, .null)] (pc' := 18) (L' := [some (.ref (A 0)), some (.int p), some (.int (balT σ p (min i (gT σ)))), some (.ref (A 2)), some (.int (nI 8)), some (.int (nI i)), none]) (st' := [.int (nI 8), .int (nI i)]) (by decide +kernel) rfl ?_
    refine V.icmpN_ge (i := i) (j := 8) hF (off := 32) (tgt := 50) (by decide +kernel) (by decide) (by omega) (by omega) (fun c1 => ?_) (fun c1 => ?_)
    · have e : min i (gT σ) = gT σ := by omega
      refine V.run hF [(.iload_n 2, 1, .null)] (pc' := 51) (L' := [some (.ref (A 0)), some (.int p), some (.int (balT σ p (min i (gT σ)))), some (.ref (A 2)), some (.int (nI 8)), some (.int (nI i)), none]) (st' := [.int (balT σ p (min i (gT σ)))]) (by decide +kernel) rfl ?_
      exact V.reti hF (by decide +kernel) ⟨by rw [e], rfl⟩
    · skip
      refine V.run hF [(.aload_n 3, 1, .null), (.iload 5, 2, .null)] (pc' := 24) (L' := [some (.ref (A 0)), some (.int p), some (.int (balT σ p (min i (gT σ)))), some (.ref (A 2)), some (.int (nI 8)), some (.int (nI i)), none]) (st' := [.int (nI i), .ref (A 2)]) (by decide +kernel) rfl ?_
      by_cases ht : i < gT σ
      · skip
        obtain ⟨e1, e2⟩ := min_s ht
        obtain ⟨t1, t2, t3⟩ := h6 i ht
        refine V.aaldS (j := i) (b := (A (12 + 6 * i))) hG hF (by decide +kernel) h2 (by omega) (by decide) (shf_in ht) ?_
        refine V.run hF [(.astore 6, 2, .null), (.aload 6, 2, .null)] (pc' := 29) (L' := [some (.ref (A 0)), some (.int p), some (.int (balT σ p (min i (gT σ)))), some (.ref (A 2)), some (.int (nI 8)), some (.int (nI i)), some (.ref (A (12 + 6 * i)))]) (st' := [.ref (A (12 + 6 * i))]) (by decide +kernel) rfl ?_
        refine V.ifnull1 hF (off := 15) (by decide +kernel) ?_
        refine V.run hF [(.iload_n 2, 1, .null), (.aload 6, 2, .null)] (pc' := 35) (L' := [some (.ref (A 0)), some (.int p), some (.int (balT σ p (min i (gT σ)))), some (.ref (A 2)), some (.int (nI 8)), some (.int (nI i)), some (.ref (A (12 + 6 * i)))]) (st' := [.ref (A (12 + 6 * i)), .int (balT σ p (min i (gT σ)))]) (by decide +kernel) rfl ?_
        refine V.getf hG hF k_RX3_56 (by decide +kernel) t1 rfl ?_
        refine V.run hF [(.iload_n 1, 1, .null)] (pc' := 39) (L' := [some (.ref (A 0)), some (.int p), some (.int (balT σ p (min i (gT σ)))), some (.ref (A 2)), some (.int (nI 8)), some (.int (nI i)), some (.ref (A (12 + 6 * i)))]) (st' := [.int p, .ref (A (13 + 6 * i)), .int (balT σ p (min i (gT σ)))]) (by decide +kernel) rfl ?_
        refine V.callVN (As := [.int p]) (st := [.int (balT σ p (min i (gT σ)))]) hG hF k_RX3_153 (by decide +kernel) (c_X0_balanceOf hG t2 t3 p) t2.1 rfl rfl ⟨by rw [hRm]; decide, by rw [hRm]; decide⟩ (Nat.le_of_ble_eq_true rfl) rfl (fun v h_1 gp1 => ?_)
        obtain ⟨rfl, he_gp1⟩ := gp1
        rw [he_gp1]
        show V G F _ _ _ 42 [some (.ref (A 0)), some (.int p), some (.int (balT σ p (min i (gT σ)))), some (.ref (A 2)), some (.int (nI 8)), some (.int (nI i)), some (.ref (A (12 + 6 * i)))] [.int (bal (gDD σ i) (gC σ i) (gM σ i) p (gn σ i)), .int (balT σ p (min i (gT σ)))] h
        refine V.run hF [(.iadd, 1, .null), (.istore_n 2, 1, .null), (.iinc 5 1, 3, .int 1), (.goto (-33), 3, .null)] (pc' := 14) (L' := [some (.ref (A 0)), some (.int p), some (.int (balT σ p (min i (gT σ)) + bal (gDD σ i) (gC σ i) (gM σ i) p (gn σ i))), some (.ref (A 2)), some (.int (nI 8)), some (.int ((nI i) + 1)), some (.ref (A (12 + 6 * i)))]) (st' := []) (by decide +kernel) rfl ?_
        rw [nI_1 i]
        have := ih c1
        rw [e1, balT, e2] at this
        rw [e2]
        exact V.loc (fun j v hv => by
          match j, hv with
          | 0, hv => exact hv
          | 1, hv => exact hv
          | 2, hv => exact hv
          | 3, hv => exact hv
          | 4, hv => exact hv
          | 5, hv => exact hv
          | 6, hv => cases hv
          | q + 7, hv => cases hv) this
      · skip
        refine V.aaldZ (j := i) hG hF (by decide +kernel) h2 (by omega) (by decide) (shf_out ht) ?_
        refine V.run hF [(.astore 6, 2, .null), (.aload 6, 2, .null)] (pc' := 29) (L' := [some (.ref (A 0)), some (.int p), some (.int (balT σ p (min i (gT σ)))), some (.ref (A 2)), some (.int (nI 8)), some (.int (nI i)), some (.null)]) (st' := [.null]) (by decide +kernel) rfl ?_
        refine V.ifnull0 hF (off := 15) (tgt := 44) (by decide +kernel) (by decide) ?_
        refine V.run hF [(.iinc 5 1, 3, .int 1), (.goto (-33), 3, .null)] (pc' := 14) (L' := [some (.ref (A 0)), some (.int p), some (.int (balT σ p (min i (gT σ)))), some (.ref (A 2)), some (.int (nI 8)), some (.int ((nI i) + 1)), some (.null)]) (st' := []) (by decide +kernel) rfl ?_
        rw [nI_1 i]
        have := ih c1
        rw [min_e ht] at this
        exact V.loc (fun j v hv => by
          match j, hv with
          | 0, hv => exact hv
          | 1, hv => exact hv
          | 2, hv => exact hv
          | 3, hv => exact hv
          | 4, hv => exact hv
          | 5, hv => exact hv
          | 6, hv => cases hv
          | q + 7, hv => cases hv) this
  refine V.run hF [(.iconst 0, 1, .int 0), (.istore_n 2, 1, .null), (.aload_n 0, 1, .null)] (pc' := 3) (L' := [some (.ref (A 0)), some (.int p), some (.int 0), none, none, none, none]) (st' := [.ref (A 0)]) (by decide +kernel) rfl ?_
  refine V.getf hG hF k_RX3_15 (by decide +kernel) hA rfl ?_
  refine V.run hF [(.astore_n 3, 1, .null), (.aload_n 3, 1, .null)] (pc' := 8) (L' := [some (.ref (A 0)), some (.int p), some (.int 0), some (.ref (A 2)), none, none, none]) (st' := [.ref (A 2)]) (by decide +kernel) rfl ?_
  refine V.alen hG hF (by decide +kernel) (by decide) h2 ?_
  show V G F _ _ _ 9 [some (.ref (A 0)), some (.int p), some (.int 0), some (.ref (A 2)), none, none, none] [.int (nI 8)] h
  refine V.run hF [(.istore 4, 2, .null), (.iconst 0, 1, .int 0), (.istore 5, 2, .null)] (pc' := 14) (L' := [some (.ref (A 0)), some (.int p), some (.int 0), some (.ref (A 2)), some (.int (nI 8)), some (.int 0), none]) (st' := []) (by decide +kernel) rfl ?_
  exact loop 0 (Nat.zero_le _)
end Hl
end
section
/-! ===== TallyWax: sums over the shelf ===== -/
def sumT (g : Nat → Int32) : Nat → Int32
  | 0 => 0
  | t + 1 => sumT g t + g t
section Su
variable {G : Gt} {h : Hp} {A : Nat → Nat} {σ : Sg} {P : PS} {r : Nat → Int32}
set_option maxHeartbeats 4000000 in
theorem c_X3_creditorBits (hG : GOk G) (hC : CS h A σ P r) (p : Int32) : Ct G yX3_creditorBits (.code yX3_creditorBits cX3_creditorBits 7 (some .int)) 1 23 0 0 [.ref (A 0), .int p] h (is_i (cbT σ p (gT σ)) h) pxN := by
  refine Ct.of (by decide +kernel) (Nat.le_of_ble_eq_true rfl) fun F hF hT hN hRm => ?_
  obtain ⟨hI, hT8, hA, h1, h2, h3, h4, h5, h6⟩ := id hC
  have loop : ∀ i, i ≤ 8 → V G F (fin G F (is_i (cbT σ p (gT σ)) h) pxN) 0 0 14 [some (.ref (A 0)), some (.int (p)), some (.int (cbT σ p (min i (gT σ)))), some (.ref (A 2)), some (.int (nI 8)), some (.int (nI i)), none] [] h := by
    refine lp_up 8 fun i hi ih => ?_
    refine V.run hF [(.iload 5, 2, .null), (.iload 4, 2, .null)] (pc' := 18) (L' := [some (.ref (A 0)), some (.int p), some (.int (cbT σ p (min i (gT σ)))), some (.ref (A 2)), some (.int (nI 8)), some (.int (nI i)), none]) (st' := [.int (nI 8), .int (nI i)]) (by decide +kernel) rfl ?_
    refine V.icmpN_ge (i := i) (j := 8) hF (off := 32) (tgt := 50) (by decide +kernel) (by decide) (by omega) (by omega) (fun c1 => ?_) (fun c1 => ?_)
    · have e : min i (gT σ) = gT σ := by omega
      refine V.run hF [(.iload_n 2, 1, .null)] (pc' := 51) (L' := [some (.ref (A 0)), some (.int p), some (.int (cbT σ p (min i (gT σ)))), some (.ref (A 2)), some (.int (nI 8)), some (.int (nI i)), none]) (st' := [.int (cbT σ p (min i (gT σ)))]) (by decide +kernel) rfl ?_
      exact V.reti hF (by decide +kernel) ⟨by rw [e], rfl⟩
    · skip
      refine V.run hF [(.aload_n 3, 1, .null), (.iload 5, 2, .null)] (pc' := 24) (L' := [some (.ref (A 0)), some (.int p), some (.int (cbT σ p (min i (gT σ)))), some (.ref (A 2)), some (.int (nI 8)), some (.int (nI i)), none]) (st' := [.int (nI i), .ref (A 2)]) (by decide +kernel) rfl ?_
      by_cases ht : i < gT σ
      · skip
        obtain ⟨e1, e2⟩ := min_s ht
        obtain ⟨t1, t2, t3⟩ := h6 i ht
        refine V.aaldS (j := i) (b := (A (12 + 6 * i))) hG hF (by decide +kernel) h2 (by omega) (by decide) (shf_in ht) ?_
        refine V.run hF [(.astore 6, 2, .null), (.aload 6, 2, .null)] (pc' := 29) (L' := [some (.ref (A 0)), some (.int p), some (.int (cbT σ p (min i (gT σ)))), some (.ref (A 2)), some (.int (nI 8)), some (.int (nI i)), some (.ref (A (12 + 6 * i)))]) (st' := [.ref (A (12 + 6 * i))]) (by decide +kernel) rfl ?_
        refine V.ifnull1 hF (off := 15) (by decide +kernel) ?_
        refine V.run hF [(.iload_n 2, 1, .null), (.aload 6, 2, .null)] (pc' := 35) (L' := [some (.ref (A 0)), some (.int p), some (.int (cbT σ p (min i (gT σ)))), some (.ref (A 2)), some (.int (nI 8)), some (.int (nI i)), some (.ref (A (12 + 6 * i)))]) (st' := [.ref (A (12 + 6 * i)), .int (cbT σ p (min i (gT σ)))]) (by decide +kernel) rfl ?_
        refine V.getf hG hF k_RX3_56 (by decide +kernel) t1 rfl ?_
        refine V.run hF [(.iload_n 1, 1, .null)] (pc' := 39) (L' := [some (.ref (A 0)), some (.int p), some (.int (cbT σ p (min i (gT σ)))), some (.ref (A 2)), some (.int (nI 8)), some (.int (nI i)), some (.ref (A (12 + 6 * i)))]) (st' := [.int p, .ref (A (13 + 6 * i)), .int (cbT σ p (min i (gT σ)))]) (by decide +kernel) rfl ?_
        refine V.callVN (As := [.int p]) (st := [.int (cbT σ p (min i (gT σ)))]) hG hF k_RX3_247 (by decide +kernel) (c_X0_creditorBits hG t2 t3 p) t2.1 rfl rfl ⟨by rw [hRm]; decide, by rw [hRm]; decide⟩ (Nat.le_of_ble_eq_true rfl) rfl (fun v h_1 gp1 => ?_)
        obtain ⟨rfl, he_gp1⟩ := gp1
        rw [he_gp1]
        show V G F _ _ _ 42 [some (.ref (A 0)), some (.int p), some (.int (cbT σ p (min i (gT σ)))), some (.ref (A 2)), some (.int (nI 8)), some (.int (nI i)), some (.ref (A (12 + 6 * i)))] [.int (cbits (gDD σ i) (gC σ i) p (gn σ i)), .int (cbT σ p (min i (gT σ)))] h
        refine V.run hF [(.ior, 1, .null), (.istore_n 2, 1, .null), (.iinc 5 1, 3, .int 1), (.goto (-33), 3, .null)] (pc' := 14) (L' := [some (.ref (A 0)), some (.int p), some (.int (cbT σ p (min i (gT σ)) ||| cbits (gDD σ i) (gC σ i) p (gn σ i))), some (.ref (A 2)), some (.int (nI 8)), some (.int ((nI i) + 1)), some (.ref (A (12 + 6 * i)))]) (st' := []) (by decide +kernel) rfl ?_
        rw [nI_1 i]
        have := ih c1
        rw [e1, cbT, e2] at this
        rw [e2]
        exact V.loc (fun j v hv => by
          match j, hv with
          | 0, hv => exact hv
          | 1, hv => exact hv
          | 2, hv => exact hv
          | 3, hv => exact hv
          | 4, hv => exact hv
          | 5, hv => exact hv
          | 6, hv => cases hv
          | q + 7, hv => cases hv) this
      · skip
        refine V.aaldZ (j := i) hG hF (by decide +kernel) h2 (by omega) (by decide) (shf_out ht) ?_
        refine V.run hF [(.astore 6, 2, .null), (.aload 6, 2, .null)] (pc' := 29) (L' := [some (.ref (A 0)), some (.int p), some (.int (cbT σ p (min i (gT σ)))), some (.ref (A 2)), some (.int (nI 8)), some (.int (nI i)), some (.null)]) (st' := [.null]) (by decide +kernel) rfl ?_
        refine V.ifnull0 hF (off := 15) (tgt := 44) (by decide +kernel) (by decide) ?_
        refine V.run hF [(.iinc 5 1, 3, .int 1), (.goto (-33), 3, .null)] (pc' := 14) (L' := [some (.ref (A 0)), some (.int p), some (.int (cbT σ p (min i (gT σ)))), some (.ref (A 2)), some (.int (nI 8)), some (.int ((nI i) + 1)), some (.null)]) (st' := []) (by decide +kernel) rfl ?_
        rw [nI_1 i]
        have := ih c1
        rw [min_e ht] at this
        exact V.loc (fun j v hv => by
          match j, hv with
          | 0, hv => exact hv
          | 1, hv => exact hv
          | 2, hv => exact hv
          | 3, hv => exact hv
          | 4, hv => exact hv
          | 5, hv => exact hv
          | 6, hv => cases hv
          | q + 7, hv => cases hv) this
  refine V.run hF [(.iconst 0, 1, .int 0), (.istore_n 2, 1, .null), (.aload_n 0, 1, .null)] (pc' := 3) (L' := [some (.ref (A 0)), some (.int p), some (.int 0), none, none, none, none]) (st' := [.ref (A 0)]) (by decide +kernel) rfl ?_
  refine V.getf hG hF k_RX3_15 (by decide +kernel) hA rfl ?_
  refine V.run hF [(.astore_n 3, 1, .null), (.aload_n 3, 1, .null)] (pc' := 8) (L' := [some (.ref (A 0)), some (.int p), some (.int 0), some (.ref (A 2)), none, none, none]) (st' := [.ref (A 2)]) (by decide +kernel) rfl ?_
  refine V.alen hG hF (by decide +kernel) (by decide) h2 ?_
  show V G F _ _ _ 9 [some (.ref (A 0)), some (.int p), some (.int 0), some (.ref (A 2)), none, none, none] [.int (nI 8)] h
  refine V.run hF [(.istore 4, 2, .null), (.iconst 0, 1, .int 0), (.istore 5, 2, .null)] (pc' := 14) (L' := [some (.ref (A 0)), some (.int p), some (.int 0), some (.ref (A 2)), some (.int (nI 8)), some (.int 0), none]) (st' := []) (by decide +kernel) rfl ?_
  exact loop 0 (Nat.zero_le _)
abbrev gLn (σ : Sg) : Nat → Int32 := sumT (fun t => nI (gn σ t))
set_option maxHeartbeats 4000000 in
theorem c_X3_lines (hG : GOk G) (hC : CS h A σ P r) : Ct G yX3_lines (.code yX3_lines cX3_lines 6 (some .int)) 0 0 0 0 [.ref (A 0)] h (is_i (gLn σ (gT σ)) h) pxN := by
  refine Ct.of (by decide +kernel) (Nat.le_of_ble_eq_true rfl) fun F hF hT hN hRm => ?_
  obtain ⟨hI, hT8, hA, h1, h2, h3, h4, h5, h6⟩ := id hC
  have loop : ∀ i, i ≤ 8 → V G F (fin G F (is_i (gLn σ (gT σ)) h) pxN) 0 0 13 [some (.ref (A 0)), some (.int (gLn σ (min i (gT σ)))), some (.ref (A 2)), some (.int (nI 8)), some (.int (nI i)), none] [] h := by
    refine lp_up 8 fun i hi ih => ?_
    refine V.run hF [(.iload 4, 2, .null), (.iload_n 3, 1, .null)] (pc' := 16) (L' := [some (.ref (A 0)), some (.int (gLn σ (min i (gT σ)))), some (.ref (A 2)), some (.int (nI 8)), some (.int (nI i)), none]) (st' := [.int (nI 8), .int (nI i)]) (by decide +kernel) rfl ?_
    refine V.icmpN_ge (i := i) (j := 8) hF (off := 31) (tgt := 47) (by decide +kernel) (by decide) (by omega) (by omega) (fun c1 => ?_) (fun c1 => ?_)
    · have e : min i (gT σ) = gT σ := by omega
      refine V.run hF [(.iload_n 1, 1, .null)] (pc' := 48) (L' := [some (.ref (A 0)), some (.int (gLn σ (min i (gT σ)))), some (.ref (A 2)), some (.int (nI 8)), some (.int (nI i)), none]) (st' := [.int (gLn σ (min i (gT σ)))]) (by decide +kernel) rfl ?_
      exact V.reti hF (by decide +kernel) ⟨by rw [e], rfl⟩
    · skip
      refine V.run hF [(.aload_n 2, 1, .null), (.iload 4, 2, .null)] (pc' := 22) (L' := [some (.ref (A 0)), some (.int (gLn σ (min i (gT σ)))), some (.ref (A 2)), some (.int (nI 8)), some (.int (nI i)), none]) (st' := [.int (nI i), .ref (A 2)]) (by decide +kernel) rfl ?_
      by_cases ht : i < gT σ
      · skip
        obtain ⟨e1, e2⟩ := min_s ht
        obtain ⟨t1, t2, t3⟩ := h6 i ht
        refine V.aaldS (j := i) (b := (A (12 + 6 * i))) hG hF (by decide +kernel) h2 (by omega) (by decide) (shf_in ht) ?_
        refine V.run hF [(.astore 5, 2, .null), (.aload 5, 2, .null)] (pc' := 27) (L' := [some (.ref (A 0)), some (.int (gLn σ (min i (gT σ)))), some (.ref (A 2)), some (.int (nI 8)), some (.int (nI i)), some (.ref (A (12 + 6 * i)))]) (st' := [.ref (A (12 + 6 * i))]) (by decide +kernel) rfl ?_
        refine V.ifnull1 hF (off := 14) (by decide +kernel) ?_
        refine V.run hF [(.iload_n 1, 1, .null), (.aload 5, 2, .null)] (pc' := 33) (L' := [some (.ref (A 0)), some (.int (gLn σ (min i (gT σ)))), some (.ref (A 2)), some (.int (nI 8)), some (.int (nI i)), some (.ref (A (12 + 6 * i)))]) (st' := [.ref (A (12 + 6 * i)), .int (gLn σ (min i (gT σ)))]) (by decide +kernel) rfl ?_
        refine V.getf hG hF k_RX3_56 (by decide +kernel) t1 rfl ?_
        refine V.getf hG hF k_RX3_67 (by decide +kernel) t2.1 rfl ?_
        refine V.run hF [(.iadd, 1, .null), (.istore_n 1, 1, .null), (.iinc 4 1, 3, .int 1), (.goto (-31), 3, .null)] (pc' := 13) (L' := [some (.ref (A 0)), some (.int (gLn σ (min i (gT σ)) + nI (gn σ i))), some (.ref (A 2)), some (.int (nI 8)), some (.int ((nI i) + 1)), some (.ref (A (12 + 6 * i)))]) (st' := []) (by decide +kernel) rfl ?_
        rw [nI_1 i]
        have := ih c1
        rw [e1, gLn, sumT, e2] at this
        rw [e2]
        exact V.loc (fun j v hv => by
          match j, hv with
          | 0, hv => exact hv
          | 1, hv => exact hv
          | 2, hv => exact hv
          | 3, hv => exact hv
          | 4, hv => exact hv
          | 5, hv => cases hv
          | q + 6, hv => cases hv) this
      · skip
        refine V.aaldZ (j := i) hG hF (by decide +kernel) h2 (by omega) (by decide) (shf_out ht) ?_
        refine V.run hF [(.astore 5, 2, .null), (.aload 5, 2, .null)] (pc' := 27) (L' := [some (.ref (A 0)), some (.int (gLn σ (min i (gT σ)))), some (.ref (A 2)), some (.int (nI 8)), some (.int (nI i)), some (.null)]) (st' := [.null]) (by decide +kernel) rfl ?_
        refine V.ifnull0 hF (off := 14) (tgt := 41) (by decide +kernel) (by decide) ?_
        refine V.run hF [(.iinc 4 1, 3, .int 1), (.goto (-31), 3, .null)] (pc' := 13) (L' := [some (.ref (A 0)), some (.int (gLn σ (min i (gT σ)))), some (.ref (A 2)), some (.int (nI 8)), some (.int ((nI i) + 1)), some (.null)]) (st' := []) (by decide +kernel) rfl ?_
        rw [nI_1 i]
        have := ih c1
        rw [min_e ht] at this
        exact V.loc (fun j v hv => by
          match j, hv with
          | 0, hv => exact hv
          | 1, hv => exact hv
          | 2, hv => exact hv
          | 3, hv => exact hv
          | 4, hv => exact hv
          | 5, hv => cases hv
          | q + 6, hv => cases hv) this
  refine V.run hF [(.iconst 0, 1, .int 0), (.istore_n 1, 1, .null), (.aload_n 0, 1, .null)] (pc' := 3) (L' := [some (.ref (A 0)), some (.int 0), none, none, none, none]) (st' := [.ref (A 0)]) (by decide +kernel) rfl ?_
  refine V.getf hG hF k_RX3_15 (by decide +kernel) hA rfl ?_
  refine V.run hF [(.astore_n 2, 1, .null), (.aload_n 2, 1, .null)] (pc' := 8) (L' := [some (.ref (A 0)), some (.int 0), some (.ref (A 2)), none, none, none]) (st' := [.ref (A 2)]) (by decide +kernel) rfl ?_
  refine V.alen hG hF (by decide +kernel) (by decide) h2 ?_
  show V G F _ _ _ 9 [some (.ref (A 0)), some (.int 0), some (.ref (A 2)), none, none, none] [.int (nI 8)] h
  refine V.run hF [(.istore_n 3, 1, .null), (.iconst 0, 1, .int 0), (.istore 4, 2, .null)] (pc' := 13) (L' := [some (.ref (A 0)), some (.int 0), some (.ref (A 2)), some (.int (nI 8)), some (.int 0), none]) (st' := []) (by decide +kernel) rfl ?_
  exact loop 0 (Nat.zero_le _)
abbrev gTo (σ : Sg) : Nat → Int32 := sumT (fun t => sm (gM σ t) (gn σ t))
set_option maxHeartbeats 4000000 in
theorem c_X3_total (hG : GOk G) (hC : CS h A σ P r) : Ct G yX3_total (.code yX3_total cX3_total 6 (some .int)) 1 22 0 0 [.ref (A 0)] h (is_i (gTo σ (gT σ)) h) pxN := by
  refine Ct.of (by decide +kernel) (Nat.le_of_ble_eq_true rfl) fun F hF hT hN hRm => ?_
  obtain ⟨hI, hT8, hA, h1, h2, h3, h4, h5, h6⟩ := id hC
  have loop : ∀ i, i ≤ 8 → V G F (fin G F (is_i (gTo σ (gT σ)) h) pxN) 0 0 13 [some (.ref (A 0)), some (.int (gTo σ (min i (gT σ)))), some (.ref (A 2)), some (.int (nI 8)), some (.int (nI i)), none] [] h := by
    refine lp_up 8 fun i hi ih => ?_
    refine V.run hF [(.iload 4, 2, .null), (.iload_n 3, 1, .null)] (pc' := 16) (L' := [some (.ref (A 0)), some (.int (gTo σ (min i (gT σ)))), some (.ref (A 2)), some (.int (nI 8)), some (.int (nI i)), none]) (st' := [.int (nI 8), .int (nI i)]) (by decide +kernel) rfl ?_
    refine V.icmpN_ge (i := i) (j := 8) hF (off := 31) (tgt := 47) (by decide +kernel) (by decide) (by omega) (by omega) (fun c1 => ?_) (fun c1 => ?_)
    · have e : min i (gT σ) = gT σ := by omega
      refine V.run hF [(.iload_n 1, 1, .null)] (pc' := 48) (L' := [some (.ref (A 0)), some (.int (gTo σ (min i (gT σ)))), some (.ref (A 2)), some (.int (nI 8)), some (.int (nI i)), none]) (st' := [.int (gTo σ (min i (gT σ)))]) (by decide +kernel) rfl ?_
      exact V.reti hF (by decide +kernel) ⟨by rw [e], rfl⟩
    · skip
      refine V.run hF [(.aload_n 2, 1, .null), (.iload 4, 2, .null)] (pc' := 22) (L' := [some (.ref (A 0)), some (.int (gTo σ (min i (gT σ)))), some (.ref (A 2)), some (.int (nI 8)), some (.int (nI i)), none]) (st' := [.int (nI i), .ref (A 2)]) (by decide +kernel) rfl ?_
      by_cases ht : i < gT σ
      · skip
        obtain ⟨e1, e2⟩ := min_s ht
        obtain ⟨t1, t2, t3⟩ := h6 i ht
        refine V.aaldS (j := i) (b := (A (12 + 6 * i))) hG hF (by decide +kernel) h2 (by omega) (by decide) (shf_in ht) ?_
        refine V.run hF [(.astore 5, 2, .null), (.aload 5, 2, .null)] (pc' := 27) (L' := [some (.ref (A 0)), some (.int (gTo σ (min i (gT σ)))), some (.ref (A 2)), some (.int (nI 8)), some (.int (nI i)), some (.ref (A (12 + 6 * i)))]) (st' := [.ref (A (12 + 6 * i))]) (by decide +kernel) rfl ?_
        refine V.ifnull1 hF (off := 14) (by decide +kernel) ?_
        refine V.run hF [(.iload_n 1, 1, .null), (.aload 5, 2, .null)] (pc' := 33) (L' := [some (.ref (A 0)), some (.int (gTo σ (min i (gT σ)))), some (.ref (A 2)), some (.int (nI 8)), some (.int (nI i)), some (.ref (A (12 + 6 * i)))]) (st' := [.ref (A (12 + 6 * i)), .int (gTo σ (min i (gT σ)))]) (by decide +kernel) rfl ?_
        refine V.getf hG hF k_RX3_56 (by decide +kernel) t1 rfl ?_
        refine V.callVN (As := []) (st := [.int (gTo σ (min i (gT σ)))]) hG hF k_RX3_158 (by decide +kernel) (c_X0_sum hG t2 t3) t2.1 rfl rfl ⟨by rw [hRm]; decide, by rw [hRm]; decide⟩ (Nat.le_of_ble_eq_true rfl) rfl (fun v h_1 gp1 => ?_)
        obtain ⟨rfl, he_gp1⟩ := gp1
        rw [he_gp1]
        show V G F _ _ _ 39 [some (.ref (A 0)), some (.int (gTo σ (min i (gT σ)))), some (.ref (A 2)), some (.int (nI 8)), some (.int (nI i)), some (.ref (A (12 + 6 * i)))] [.int (sm (gM σ i) (gn σ i)), .int (gTo σ (min i (gT σ)))] h
        refine V.run hF [(.iadd, 1, .null), (.istore_n 1, 1, .null), (.iinc 4 1, 3, .int 1), (.goto (-31), 3, .null)] (pc' := 13) (L' := [some (.ref (A 0)), some (.int (gTo σ (min i (gT σ)) + sm (gM σ i) (gn σ i))), some (.ref (A 2)), some (.int (nI 8)), some (.int ((nI i) + 1)), some (.ref (A (12 + 6 * i)))]) (st' := []) (by decide +kernel) rfl ?_
        rw [nI_1 i]
        have := ih c1
        rw [e1, gTo, sumT, e2] at this
        rw [e2]
        exact V.loc (fun j v hv => by
          match j, hv with
          | 0, hv => exact hv
          | 1, hv => exact hv
          | 2, hv => exact hv
          | 3, hv => exact hv
          | 4, hv => exact hv
          | 5, hv => cases hv
          | q + 6, hv => cases hv) this
      · skip
        refine V.aaldZ (j := i) hG hF (by decide +kernel) h2 (by omega) (by decide) (shf_out ht) ?_
        refine V.run hF [(.astore 5, 2, .null), (.aload 5, 2, .null)] (pc' := 27) (L' := [some (.ref (A 0)), some (.int (gTo σ (min i (gT σ)))), some (.ref (A 2)), some (.int (nI 8)), some (.int (nI i)), some (.null)]) (st' := [.null]) (by decide +kernel) rfl ?_
        refine V.ifnull0 hF (off := 14) (tgt := 41) (by decide +kernel) (by decide) ?_
        refine V.run hF [(.iinc 4 1, 3, .int 1), (.goto (-31), 3, .null)] (pc' := 13) (L' := [some (.ref (A 0)), some (.int (gTo σ (min i (gT σ)))), some (.ref (A 2)), some (.int (nI 8)), some (.int ((nI i) + 1)), some (.null)]) (st' := []) (by decide +kernel) rfl ?_
        rw [nI_1 i]
        have := ih c1
        rw [min_e ht] at this
        exact V.loc (fun j v hv => by
          match j, hv with
          | 0, hv => exact hv
          | 1, hv => exact hv
          | 2, hv => exact hv
          | 3, hv => exact hv
          | 4, hv => exact hv
          | 5, hv => cases hv
          | q + 6, hv => cases hv) this
  refine V.run hF [(.iconst 0, 1, .int 0), (.istore_n 1, 1, .null), (.aload_n 0, 1, .null)] (pc' := 3) (L' := [some (.ref (A 0)), some (.int 0), none, none, none, none]) (st' := [.ref (A 0)]) (by decide +kernel) rfl ?_
  refine V.getf hG hF k_RX3_15 (by decide +kernel) hA rfl ?_
  refine V.run hF [(.astore_n 2, 1, .null), (.aload_n 2, 1, .null)] (pc' := 8) (L' := [some (.ref (A 0)), some (.int 0), some (.ref (A 2)), none, none, none]) (st' := [.ref (A 2)]) (by decide +kernel) rfl ?_
  refine V.alen hG hF (by decide +kernel) (by decide) h2 ?_
  show V G F _ _ _ 9 [some (.ref (A 0)), some (.int 0), some (.ref (A 2)), none, none, none] [.int (nI 8)] h
  refine V.run hF [(.istore_n 3, 1, .null), (.iconst 0, 1, .int 0), (.istore 4, 2, .null)] (pc' := 13) (L' := [some (.ref (A 0)), some (.int 0), some (.ref (A 2)), some (.int (nI 8)), some (.int 0), none]) (st' := []) (by decide +kernel) rfl ?_
  exact loop 0 (Nat.zero_le _)
abbrev gOw (σ : Sg) (p q : Int32) : Nat → Int32 := sumT (fun t => owe (gDD σ t) (gC σ t) (gM σ t) p q (gn σ t))
set_option maxHeartbeats 4000000 in
theorem c_X3_owes (hG : GOk G) (hC : CS h A σ P r) (p q : Int32) : Ct G yX3_owes (.code yX3_owes cX3_owes 8 (some .int)) 7 102 2 12 [.ref (A 0), .int p, .int q] h (fun v h' => (inP p ∧ inP q) ∧ is_i (gOw σ p q (gT σ)) h v h') (fun E h' => E = eI ∧ ¬ (inP p ∧ inP q) ∧ h' = h) := by
  refine Ct.of (by decide +kernel) (Nat.le_of_ble_eq_true rfl) fun F hF hT hN hRm => ?_
  obtain ⟨hI, hT8, hA, h1, h2, h3, h4, h5, h6⟩ := id hC
  refine V.run hF [(.iload_n 1, 1, .null)] (pc' := 1) (L' := [some (.ref (A 0)), some (.int p), some (.int q), none, none, none, none, none]) (st' := [.int p]) (by decide +kernel) rfl ?_
  refine V.callS (As := [.int p]) (st := []) hG hF k_RX3_60 (by decide +kernel) (c_X3_checkPerson hG p) rfl ⟨by rw [hRm]; decide, by rw [hRm]; decide⟩ (Nat.le_of_ble_eq_true rfl) rfl (fun v h1' hp => ?_) (fun E h9 hx => VX.out hF hT ⟨hx.1, fun q => hx.2.1 q.1, hx.2.2⟩)
  obtain ⟨rfl, hx, he⟩ := hp
  rw [he]
  show V G F _ _ _ 4 [some (.ref (A 0)), some (.int p), some (.int q), none, none, none, none, none] [] h
  refine V.run hF [(.iload_n 2, 1, .null)] (pc' := 5) (L' := [some (.ref (A 0)), some (.int p), some (.int q), none, none, none, none, none]) (st' := [.int q]) (by decide +kernel) rfl ?_
  refine V.callS (As := [.int q]) (st := []) hG hF k_RX3_60 (by decide +kernel) (c_X3_checkPerson hG q) rfl ⟨by rw [hRm]; decide, by rw [hRm]; decide⟩ (Nat.le_of_ble_eq_true rfl) rfl (fun v h1' hp => ?_) (fun E h9 hx => VX.out hF hT ⟨hx.1, fun q => hx.2.1 q.2, hx.2.2⟩)
  obtain ⟨rfl, hx2, he⟩ := hp
  rw [he]
  show V G F _ _ _ 8 [some (.ref (A 0)), some (.int p), some (.int q), none, none, none, none, none] [] h
  refine V.less (Nat.zero_le _) (Nat.zero_le _) (?_ : V G F _ 0 0 8 [some (.ref (A 0)), some (.int p), some (.int q), none, none, none, none, none] [] h)
  have loop : ∀ i, i ≤ 8 → V G F (fin G F (fun v h' => (inP p ∧ inP q) ∧ is_i (gOw σ p q (gT σ)) h v h') (fun E h' => E = eI ∧ ¬ (inP p ∧ inP q) ∧ h' = h)) 0 0 24 [some (.ref (A 0)), some (.int (p)), some (.int (q)), some (.int (gOw σ p q (min i (gT σ)))), some (.ref (A 2)), some (.int (nI 8)), some (.int (nI i)), none] [] h := by
    refine lp_up 8 fun i hi ih => ?_
    refine V.run hF [(.iload 6, 2, .null), (.iload 5, 2, .null)] (pc' := 28) (L' := [some (.ref (A 0)), some (.int p), some (.int q), some (.int (gOw σ p q (min i (gT σ)))), some (.ref (A 2)), some (.int (nI 8)), some (.int (nI i)), none]) (st' := [.int (nI 8), .int (nI i)]) (by decide +kernel) rfl ?_
    refine V.icmpN_ge (i := i) (j := 8) hF (off := 34) (tgt := 62) (by decide +kernel) (by decide) (by omega) (by omega) (fun c1 => ?_) (fun c1 => ?_)
    · have e : min i (gT σ) = gT σ := by omega
      refine V.run hF [(.iload_n 3, 1, .null)] (pc' := 63) (L' := [some (.ref (A 0)), some (.int p), some (.int q), some (.int (gOw σ p q (min i (gT σ)))), some (.ref (A 2)), some (.int (nI 8)), some (.int (nI i)), none]) (st' := [.int (gOw σ p q (min i (gT σ)))]) (by decide +kernel) rfl ?_
      exact V.reti hF (by decide +kernel) ⟨⟨hx, hx2⟩, by rw [e], rfl⟩
    · skip
      refine V.run hF [(.aload 4, 2, .null), (.iload 6, 2, .null)] (pc' := 35) (L' := [some (.ref (A 0)), some (.int p), some (.int q), some (.int (gOw σ p q (min i (gT σ)))), some (.ref (A 2)), some (.int (nI 8)), some (.int (nI i)), none]) (st' := [.int (nI i), .ref (A 2)]) (by decide +kernel) rfl ?_
      by_cases ht : i < gT σ
      · skip
        obtain ⟨e1, e2⟩ := min_s ht
        obtain ⟨t1, t2, t3⟩ := h6 i ht
        refine V.aaldS (j := i) (b := (A (12 + 6 * i))) hG hF (by decide +kernel) h2 (by omega) (by decide) (shf_in ht) ?_
        refine V.run hF [(.astore 7, 2, .null), (.aload 7, 2, .null)] (pc' := 40) (L' := [some (.ref (A 0)), some (.int p), some (.int q), some (.int (gOw σ p q (min i (gT σ)))), some (.ref (A 2)), some (.int (nI 8)), some (.int (nI i)), some (.ref (A (12 + 6 * i)))]) (st' := [.ref (A (12 + 6 * i))]) (by decide +kernel) rfl ?_
        refine V.ifnull1 hF (off := 16) (by decide +kernel) ?_
        refine V.run hF [(.iload_n 3, 1, .null), (.aload 7, 2, .null)] (pc' := 46) (L' := [some (.ref (A 0)), some (.int p), some (.int q), some (.int (gOw σ p q (min i (gT σ)))), some (.ref (A 2)), some (.int (nI 8)), some (.int (nI i)), some (.ref (A (12 + 6 * i)))]) (st' := [.ref (A (12 + 6 * i)), .int (gOw σ p q (min i (gT σ)))]) (by decide +kernel) rfl ?_
        refine V.getf hG hF k_RX3_56 (by decide +kernel) t1 rfl ?_
        refine V.run hF [(.iload_n 1, 1, .null), (.iload_n 2, 1, .null)] (pc' := 51) (L' := [some (.ref (A 0)), some (.int p), some (.int q), some (.int (gOw σ p q (min i (gT σ)))), some (.ref (A 2)), some (.int (nI 8)), some (.int (nI i)), some (.ref (A (12 + 6 * i)))]) (st' := [.int q, .int p, .ref (A (13 + 6 * i)), .int (gOw σ p q (min i (gT σ)))]) (by decide +kernel) rfl ?_
        refine V.callVN (As := [.int p, .int q]) (st := [.int (gOw σ p q (min i (gT σ)))]) hG hF k_RX3_154 (by decide +kernel) (c_X0_owedBetween hG t2 t3 p q) t2.1 rfl rfl ⟨by rw [hRm]; decide, by rw [hRm]; decide⟩ (Nat.le_of_ble_eq_true rfl) rfl (fun v h_3 gp3 => ?_)
        obtain ⟨rfl, he_gp3⟩ := gp3
        rw [he_gp3]
        show V G F _ _ _ 54 [some (.ref (A 0)), some (.int p), some (.int q), some (.int (gOw σ p q (min i (gT σ)))), some (.ref (A 2)), some (.int (nI 8)), some (.int (nI i)), some (.ref (A (12 + 6 * i)))] [.int (owe (gDD σ i) (gC σ i) (gM σ i) p q (gn σ i)), .int (gOw σ p q (min i (gT σ)))] h
        refine V.run hF [(.iadd, 1, .null), (.istore_n 3, 1, .null), (.iinc 6 1, 3, .int 1), (.goto (-35), 3, .null)] (pc' := 24) (L' := [some (.ref (A 0)), some (.int p), some (.int q), some (.int (gOw σ p q (min i (gT σ)) + owe (gDD σ i) (gC σ i) (gM σ i) p q (gn σ i))), some (.ref (A 2)), some (.int (nI 8)), some (.int ((nI i) + 1)), some (.ref (A (12 + 6 * i)))]) (st' := []) (by decide +kernel) rfl ?_
        rw [nI_1 i]
        have := ih c1
        rw [e1, gOw, sumT, e2] at this
        rw [e2]
        exact V.loc (fun j v hv => by
          match j, hv with
          | 0, hv => exact hv
          | 1, hv => exact hv
          | 2, hv => exact hv
          | 3, hv => exact hv
          | 4, hv => exact hv
          | 5, hv => exact hv
          | 6, hv => exact hv
          | 7, hv => cases hv
          | q + 8, hv => cases hv) this
      · skip
        refine V.aaldZ (j := i) hG hF (by decide +kernel) h2 (by omega) (by decide) (shf_out ht) ?_
        refine V.run hF [(.astore 7, 2, .null), (.aload 7, 2, .null)] (pc' := 40) (L' := [some (.ref (A 0)), some (.int p), some (.int q), some (.int (gOw σ p q (min i (gT σ)))), some (.ref (A 2)), some (.int (nI 8)), some (.int (nI i)), some (.null)]) (st' := [.null]) (by decide +kernel) rfl ?_
        refine V.ifnull0 hF (off := 16) (tgt := 56) (by decide +kernel) (by decide) ?_
        refine V.run hF [(.iinc 6 1, 3, .int 1), (.goto (-35), 3, .null)] (pc' := 24) (L' := [some (.ref (A 0)), some (.int p), some (.int q), some (.int (gOw σ p q (min i (gT σ)))), some (.ref (A 2)), some (.int (nI 8)), some (.int ((nI i) + 1)), some (.null)]) (st' := []) (by decide +kernel) rfl ?_
        rw [nI_1 i]
        have := ih c1
        rw [min_e ht] at this
        exact V.loc (fun j v hv => by
          match j, hv with
          | 0, hv => exact hv
          | 1, hv => exact hv
          | 2, hv => exact hv
          | 3, hv => exact hv
          | 4, hv => exact hv
          | 5, hv => exact hv
          | 6, hv => exact hv
          | 7, hv => cases hv
          | q + 8, hv => cases hv) this
  refine V.run hF [(.iconst 0, 1, .int 0), (.istore_n 3, 1, .null), (.aload_n 0, 1, .null)] (pc' := 11) (L' := [some (.ref (A 0)), some (.int p), some (.int q), some (.int 0), none, none, none, none]) (st' := [.ref (A 0)]) (by decide +kernel) rfl ?_
  refine V.getf hG hF k_RX3_15 (by decide +kernel) hA rfl ?_
  refine V.run hF [(.astore 4, 2, .null), (.aload 4, 2, .null)] (pc' := 18) (L' := [some (.ref (A 0)), some (.int p), some (.int q), some (.int 0), some (.ref (A 2)), none, none, none]) (st' := [.ref (A 2)]) (by decide +kernel) rfl ?_
  refine V.alen hG hF (by decide +kernel) (by decide) h2 ?_
  show V G F _ _ _ 19 [some (.ref (A 0)), some (.int p), some (.int q), some (.int 0), some (.ref (A 2)), none, none, none] [.int (nI 8)] h
  refine V.run hF [(.istore 5, 2, .null), (.iconst 0, 1, .int 0), (.istore 6, 2, .null)] (pc' := 24) (L' := [some (.ref (A 0)), some (.int p), some (.int q), some (.int 0), some (.ref (A 2)), some (.int (nI 8)), some (.int 0), none]) (st' := []) (by decide +kernel) rfl ?_
  exact loop 0 (Nat.zero_le _)
abbrev gRk (σ : Sg) (p : Int32) : Nat → Int32 := sumT (fun t => wit (gM σ t) (gW σ t) p (gn σ t))
set_option maxHeartbeats 4000000 in
theorem c_X3_atRisk (hG : GOk G) (hC : CS h A σ P r) (p : Int32) : Ct G yX3_atRisk (.code yX3_atRisk cX3_atRisk 7 (some .int)) 7 102 1 6 [.ref (A 0), .int p] h (fun v h' => inP p ∧ is_i (if gth σ p.toNatClampNeg = 0 then 0 else gRk σ p (gT σ)) h v h') (fun E h' => E = eI ∧ ¬ inP p ∧ h' = h) := by
  refine Ct.of (by decide +kernel) (Nat.le_of_ble_eq_true rfl) fun F hF hT hN hRm => ?_
  obtain ⟨hI, hT8, hA, h1, h2, h3, h4, h5, h6⟩ := id hC
  refine V.run hF [(.iload_n 1, 1, .null)] (pc' := 1) (L' := [some (.ref (A 0)), some (.int p), none, none, none, none, none]) (st' := [.int p]) (by decide +kernel) rfl ?_
  refine V.callS (As := [.int p]) (st := []) hG hF k_RX3_60 (by decide +kernel) (c_X3_checkPerson hG p) rfl ⟨by rw [hRm]; decide, by rw [hRm]; decide⟩ (Nat.le_of_ble_eq_true rfl) rfl (fun v h1' hp => ?_) (fun E h9 hx => VX.out hF hT ⟨hx.1, hx.2.1, hx.2.2⟩)
  obtain ⟨rfl, hx, he⟩ := hp
  rw [he]
  show V G F _ _ _ 4 [some (.ref (A 0)), some (.int p), none, none, none, none, none] [] h
  refine V.less (Nat.zero_le _) (Nat.zero_le _) (?_ : V G F _ 0 0 4 [some (.ref (A 0)), some (.int p), none, none, none, none, none] [] h)
  have hin : vp_in p 8 := by
    obtain ⟨q, hq, eq⟩ := inP_of hx
    rw [eq]
    exact vp_in_nI hq (by decide)
  refine V.run hF [(.aload_n 0, 1, .null)] (pc' := 5) (L' := [some (.ref (A 0)), some (.int p), none, none, none, none, none]) (st' := [.ref (A 0)]) (by decide +kernel) rfl ?_
  refine V.getf hG hF k_RX3_9 (by decide +kernel) hA rfl ?_
  refine V.run hF [(.iload_n 1, 1, .null)] (pc' := 9) (L' := [some (.ref (A 0)), some (.int p), none, none, none, none, none]) (st' := [.int p, .ref (A 1)]) (by decide +kernel) rfl ?_
  refine V.zald hG hF (by decide +kernel) h1 (by assumption) ?_
  rcases Classical.em (gth σ p.toNatClampNeg = 0) with hth | hth
  · refine V.if_ne hF (off := 5) (tgt := 15) (by decide +kernel) (by decide) (fun c => absurd hth c) (fun c => ?_)
    refine V.run hF [(.iconst 0, 1, .int 0)] (pc' := 14) (L' := [some (.ref (A 0)), some (.int p), none, none, none, none, none]) (st' := [.int 0]) (by decide +kernel) rfl ?_
    exact V.reti hF (by decide +kernel) ⟨hx, by rw [if_pos hth], rfl⟩
  refine V.if_ne hF (off := 5) (tgt := 15) (by decide +kernel) (by decide) (fun c => ?_) (fun c => absurd c hth)
  show V G F _ _ _ 15 [some (.ref (A 0)), some (.int p), none, none, none, none, none] [] h
  have loop : ∀ i, i ≤ 8 → V G F (fin G F (fun v h' => inP p ∧ is_i (if gth σ p.toNatClampNeg = 0 then 0 else gRk σ p (gT σ)) h v h') (fun E h' => E = eI ∧ ¬ inP p ∧ h' = h)) 0 0 29 [some (.ref (A 0)), some (.int (p)), some (.int (gRk σ p (min i (gT σ)))), some (.ref (A 2)), some (.int (nI 8)), some (.int (nI i)), none] [] h := by
    refine lp_up 8 fun i hi ih => ?_
    refine V.run hF [(.iload 5, 2, .null), (.iload 4, 2, .null)] (pc' := 33) (L' := [some (.ref (A 0)), some (.int p), some (.int (gRk σ p (min i (gT σ)))), some (.ref (A 2)), some (.int (nI 8)), some (.int (nI i)), none]) (st' := [.int (nI 8), .int (nI i)]) (by decide +kernel) rfl ?_
    refine V.icmpN_ge (i := i) (j := 8) hF (off := 32) (tgt := 65) (by decide +kernel) (by decide) (by omega) (by omega) (fun c1 => ?_) (fun c1 => ?_)
    · have e : min i (gT σ) = gT σ := by omega
      refine V.run hF [(.iload_n 2, 1, .null)] (pc' := 66) (L' := [some (.ref (A 0)), some (.int p), some (.int (gRk σ p (min i (gT σ)))), some (.ref (A 2)), some (.int (nI 8)), some (.int (nI i)), none]) (st' := [.int (gRk σ p (min i (gT σ)))]) (by decide +kernel) rfl ?_
      exact V.reti hF (by decide +kernel) ⟨hx, by rw [if_neg hth, e], rfl⟩
    · skip
      refine V.run hF [(.aload_n 3, 1, .null), (.iload 5, 2, .null)] (pc' := 39) (L' := [some (.ref (A 0)), some (.int p), some (.int (gRk σ p (min i (gT σ)))), some (.ref (A 2)), some (.int (nI 8)), some (.int (nI i)), none]) (st' := [.int (nI i), .ref (A 2)]) (by decide +kernel) rfl ?_
      by_cases ht : i < gT σ
      · skip
        obtain ⟨e1, e2⟩ := min_s ht
        obtain ⟨t1, t2, t3⟩ := h6 i ht
        refine V.aaldS (j := i) (b := (A (12 + 6 * i))) hG hF (by decide +kernel) h2 (by omega) (by decide) (shf_in ht) ?_
        refine V.run hF [(.astore 6, 2, .null), (.aload 6, 2, .null)] (pc' := 44) (L' := [some (.ref (A 0)), some (.int p), some (.int (gRk σ p (min i (gT σ)))), some (.ref (A 2)), some (.int (nI 8)), some (.int (nI i)), some (.ref (A (12 + 6 * i)))]) (st' := [.ref (A (12 + 6 * i))]) (by decide +kernel) rfl ?_
        refine V.ifnull1 hF (off := 15) (by decide +kernel) ?_
        refine V.run hF [(.iload_n 2, 1, .null), (.aload 6, 2, .null)] (pc' := 50) (L' := [some (.ref (A 0)), some (.int p), some (.int (gRk σ p (min i (gT σ)))), some (.ref (A 2)), some (.int (nI 8)), some (.int (nI i)), some (.ref (A (12 + 6 * i)))]) (st' := [.ref (A (12 + 6 * i)), .int (gRk σ p (min i (gT σ)))]) (by decide +kernel) rfl ?_
        refine V.getf hG hF k_RX3_56 (by decide +kernel) t1 rfl ?_
        refine V.run hF [(.iload_n 1, 1, .null)] (pc' := 54) (L' := [some (.ref (A 0)), some (.int p), some (.int (gRk σ p (min i (gT σ)))), some (.ref (A 2)), some (.int (nI 8)), some (.int (nI i)), some (.ref (A (12 + 6 * i)))]) (st' := [.int p, .ref (A (13 + 6 * i)), .int (gRk σ p (min i (gT σ)))]) (by decide +kernel) rfl ?_
        refine V.callVN (As := [.int p]) (st := [.int (gRk σ p (min i (gT σ)))]) hG hF k_RX3_180 (by decide +kernel) (c_X0_sumWitnessedBy hG t2 t3 p) t2.1 rfl rfl ⟨by rw [hRm]; decide, by rw [hRm]; decide⟩ (Nat.le_of_ble_eq_true rfl) rfl (fun v h_2 gp2 => ?_)
        obtain ⟨rfl, he_gp2⟩ := gp2
        rw [he_gp2]
        show V G F _ _ _ 57 [some (.ref (A 0)), some (.int p), some (.int (gRk σ p (min i (gT σ)))), some (.ref (A 2)), some (.int (nI 8)), some (.int (nI i)), some (.ref (A (12 + 6 * i)))] [.int (wit (gM σ i) (gW σ i) p (gn σ i)), .int (gRk σ p (min i (gT σ)))] h
        refine V.run hF [(.iadd, 1, .null), (.istore_n 2, 1, .null), (.iinc 5 1, 3, .int 1), (.goto (-33), 3, .null)] (pc' := 29) (L' := [some (.ref (A 0)), some (.int p), some (.int (gRk σ p (min i (gT σ)) + wit (gM σ i) (gW σ i) p (gn σ i))), some (.ref (A 2)), some (.int (nI 8)), some (.int ((nI i) + 1)), some (.ref (A (12 + 6 * i)))]) (st' := []) (by decide +kernel) rfl ?_
        rw [nI_1 i]
        have := ih c1
        rw [e1, gRk, sumT, e2] at this
        rw [e2]
        exact V.loc (fun j v hv => by
          match j, hv with
          | 0, hv => exact hv
          | 1, hv => exact hv
          | 2, hv => exact hv
          | 3, hv => exact hv
          | 4, hv => exact hv
          | 5, hv => exact hv
          | 6, hv => cases hv
          | q + 7, hv => cases hv) this
      · skip
        refine V.aaldZ (j := i) hG hF (by decide +kernel) h2 (by omega) (by decide) (shf_out ht) ?_
        refine V.run hF [(.astore 6, 2, .null), (.aload 6, 2, .null)] (pc' := 44) (L' := [some (.ref (A 0)), some (.int p), some (.int (gRk σ p (min i (gT σ)))), some (.ref (A 2)), some (.int (nI 8)), some (.int (nI i)), some (.null)]) (st' := [.null]) (by decide +kernel) rfl ?_
        refine V.ifnull0 hF (off := 15) (tgt := 59) (by decide +kernel) (by decide) ?_
        refine V.run hF [(.iinc 5 1, 3, .int 1), (.goto (-33), 3, .null)] (pc' := 29) (L' := [some (.ref (A 0)), some (.int p), some (.int (gRk σ p (min i (gT σ)))), some (.ref (A 2)), some (.int (nI 8)), some (.int ((nI i) + 1)), some (.null)]) (st' := []) (by decide +kernel) rfl ?_
        rw [nI_1 i]
        have := ih c1
        rw [min_e ht] at this
        exact V.loc (fun j v hv => by
          match j, hv with
          | 0, hv => exact hv
          | 1, hv => exact hv
          | 2, hv => exact hv
          | 3, hv => exact hv
          | 4, hv => exact hv
          | 5, hv => exact hv
          | 6, hv => cases hv
          | q + 7, hv => cases hv) this
  refine V.run hF [(.iconst 0, 1, .int 0), (.istore_n 2, 1, .null), (.aload_n 0, 1, .null)] (pc' := 18) (L' := [some (.ref (A 0)), some (.int p), some (.int 0), none, none, none, none]) (st' := [.ref (A 0)]) (by decide +kernel) rfl ?_
  refine V.getf hG hF k_RX3_15 (by decide +kernel) hA rfl ?_
  refine V.run hF [(.astore_n 3, 1, .null), (.aload_n 3, 1, .null)] (pc' := 23) (L' := [some (.ref (A 0)), some (.int p), some (.int 0), some (.ref (A 2)), none, none, none]) (st' := [.ref (A 2)]) (by decide +kernel) rfl ?_
  refine V.alen hG hF (by decide +kernel) (by decide) h2 ?_
  show V G F _ _ _ 24 [some (.ref (A 0)), some (.int p), some (.int 0), some (.ref (A 2)), none, none, none] [.int (nI 8)] h
  refine V.run hF [(.istore 4, 2, .null), (.iconst 0, 1, .int 0), (.istore 5, 2, .null)] (pc' := 29) (L' := [some (.ref (A 0)), some (.int p), some (.int 0), some (.ref (A 2)), some (.int (nI 8)), some (.int 0), none]) (st' := []) (by decide +kernel) rfl ?_
  exact loop 0 (Nat.zero_le _)
def gMl (σ : Sg) (y : Int32) (t : Nat) : Int32 := if ytm σ t 10 0 = -1 then 0 else if y < ytm σ t 10 0 then 0 else sm (gM σ t) (gn σ t)
abbrev gMI (σ : Sg) (y : Int32) : Nat → Int32 := sumT (gMl σ y)
set_option maxHeartbeats 4000000 in
theorem c_X3_meltsIn (hG : GOk G) (hC : CS h A σ P r) (p : Int32) (hy : gy σ < 2 ^ 30) : Ct G yX3_meltsIn (.code yX3_meltsIn cX3_meltsIn 8 (some .int)) 7 102 1 6 [.ref (A 0), .int p] h (fun v h' => inY p ∧ is_i (gMI σ p (gT σ)) h v h') (fun E h' => E = eA ∧ ¬ inY p ∧ h' = h) := by
  refine Ct.of (by decide +kernel) (Nat.le_of_ble_eq_true rfl) fun F hF hT hN hRm => ?_
  obtain ⟨hI, hT8, hA, h1, h2, h3, h4, h5, h6⟩ := id hC
  refine V.run hF [(.iload_n 1, 1, .null)] (pc' := 1) (L' := [some (.ref (A 0)), some (.int p), none, none, none, none, none, none]) (st' := [.int p]) (by decide +kernel) rfl ?_
  refine V.callS (As := [.int p]) (st := []) hG hF k_RX3_133 (by decide +kernel) (c_X3_checkYears hG p) rfl ⟨by rw [hRm]; decide, by rw [hRm]; decide⟩ (Nat.le_of_ble_eq_true rfl) rfl (fun v h1' hp => ?_) (fun E h9 hx => VX.out hF hT ⟨hx.1, hx.2.1, hx.2.2⟩)
  obtain ⟨rfl, hx, he⟩ := hp
  rw [he]
  show V G F _ _ _ 4 [some (.ref (A 0)), some (.int p), none, none, none, none, none, none] [] h
  refine V.less (Nat.zero_le _) (Nat.zero_le _) (?_ : V G F _ 0 0 4 [some (.ref (A 0)), some (.int p), none, none, none, none, none, none] [] h)
  have loop : ∀ i, i ≤ 8 → V G F (fin G F (fun v h' => inY p ∧ is_i (gMI σ p (gT σ)) h v h') (fun E h' => E = eA ∧ ¬ inY p ∧ h' = h)) 0 0 18 [some (.ref (A 0)), some (.int (p)), some (.int (gMI σ p (min i (gT σ)))), some (.ref (A 2)), some (.int (nI 8)), some (.int (nI i)), none, none] [] h := by
    refine lp_up 8 fun i hi ih => ?_
    refine V.run hF [(.iload 5, 2, .null), (.iload 4, 2, .null)] (pc' := 22) (L' := [some (.ref (A 0)), some (.int p), some (.int (gMI σ p (min i (gT σ)))), some (.ref (A 2)), some (.int (nI 8)), some (.int (nI i)), none, none]) (st' := [.int (nI 8), .int (nI i)]) (by decide +kernel) rfl ?_
    refine V.icmpN_ge (i := i) (j := 8) hF (off := 51) (tgt := 73) (by decide +kernel) (by decide) (by omega) (by omega) (fun c1 => ?_) (fun c1 => ?_)
    · have e : min i (gT σ) = gT σ := by omega
      refine V.run hF [(.iload_n 2, 1, .null)] (pc' := 74) (L' := [some (.ref (A 0)), some (.int p), some (.int (gMI σ p (min i (gT σ)))), some (.ref (A 2)), some (.int (nI 8)), some (.int (nI i)), none, none]) (st' := [.int (gMI σ p (min i (gT σ)))]) (by decide +kernel) rfl ?_
      exact V.reti hF (by decide +kernel) ⟨hx, by rw [e], rfl⟩
    · skip
      refine V.run hF [(.aload_n 3, 1, .null), (.iload 5, 2, .null)] (pc' := 28) (L' := [some (.ref (A 0)), some (.int p), some (.int (gMI σ p (min i (gT σ)))), some (.ref (A 2)), some (.int (nI 8)), some (.int (nI i)), none, none]) (st' := [.int (nI i), .ref (A 2)]) (by decide +kernel) rfl ?_
      by_cases ht : i < gT σ
      · skip
        obtain ⟨e1, e2⟩ := min_s ht
        obtain ⟨t1, t2, t3⟩ := h6 i ht
        refine V.aaldS (j := i) (b := (A (12 + 6 * i))) hG hF (by decide +kernel) h2 (by omega) (by decide) (shf_in ht) ?_
        refine V.run hF [(.astore 6, 2, .null), (.aload 6, 2, .null)] (pc' := 33) (L' := [some (.ref (A 0)), some (.int p), some (.int (gMI σ p (min i (gT σ)))), some (.ref (A 2)), some (.int (nI 8)), some (.int (nI i)), some (.ref (A (12 + 6 * i))), none]) (st' := [.ref (A (12 + 6 * i))]) (by decide +kernel) rfl ?_
        refine V.ifnull1 hF (off := 34) (by decide +kernel) ?_
        refine V.run hF [(.aload_n 0, 1, .null), (.aload 6, 2, .null)] (pc' := 39) (L' := [some (.ref (A 0)), some (.int p), some (.int (gMI σ p (min i (gT σ)))), some (.ref (A 2)), some (.int (nI 8)), some (.int (nI i)), some (.ref (A (12 + 6 * i))), none]) (st' := [.ref (A (12 + 6 * i)), .ref (A 0)]) (by decide +kernel) rfl ?_
        refine V.callV (As := [.ref (A (12 + 6 * i))]) (st := []) hG hF k_RX3_183 (by decide +kernel) (c_X3_yearsLeftOf hG hC hy ht) hA rfl rfl ⟨by rw [hRm]; decide, by rw [hRm]; decide⟩ (Nat.le_of_ble_eq_true rfl) rfl (fun v h_2 gp2 => ?_) (fun E h9 hx => hx.elim)
        obtain ⟨rfl, he_gp2⟩ := gp2
        rw [he_gp2]
        show V G F _ _ _ 42 [some (.ref (A 0)), some (.int p), some (.int (gMI σ p (min i (gT σ)))), some (.ref (A 2)), some (.int (nI 8)), some (.int (nI i)), some (.ref (A (12 + 6 * i))), none] [.int (ytm σ i 10 0)] h
        refine V.run hF [(.istore 7, 2, .null), (.iload 7, 2, .null), (.iconst (-1), 1, .int (-1))] (pc' := 47) (L' := [some (.ref (A 0)), some (.int p), some (.int (gMI σ p (min i (gT σ)))), some (.ref (A 2)), some (.int (nI 8)), some (.int (nI i)), some (.ref (A (12 + 6 * i))), some (.int (ytm σ i 10 0))]) (st' := [.int (-1), .int (ytm σ i 10 0)]) (by decide +kernel) rfl ?_
        refine V.icmp_eq hF (off := 20) (tgt := 67) (by decide +kernel) (by decide) (fun c2 => ?_) (fun c2 => ?_)
        · skip
          refine V.run hF [(.iinc 5 1, 3, .int 1), (.goto (-52), 3, .null)] (pc' := 18) (L' := [some (.ref (A 0)), some (.int p), some (.int (gMI σ p (min i (gT σ)))), some (.ref (A 2)), some (.int (nI 8)), some (.int ((nI i) + 1)), some (.ref (A (12 + 6 * i))), some (.int (ytm σ i 10 0))]) (st' := []) (by decide +kernel) rfl ?_
          rw [nI_1 i]
          have := ih c1
          rw [e1, gMI, sumT, e2, gMl, if_pos c2, Int32.add_zero] at this
          rw [e2]
          exact V.loc (fun j v hv => by
            match j, hv with
              | 0, hv => exact hv
              | 1, hv => exact hv
              | 2, hv => exact hv
              | 3, hv => exact hv
              | 4, hv => exact hv
              | 5, hv => exact hv
              | 6, hv => cases hv
              | 7, hv => cases hv
              | q + 8, hv => cases hv) this
        · skip
          refine V.run hF [(.iload 7, 2, .null), (.iload_n 1, 1, .null)] (pc' := 53) (L' := [some (.ref (A 0)), some (.int p), some (.int (gMI σ p (min i (gT σ)))), some (.ref (A 2)), some (.int (nI 8)), some (.int (nI i)), some (.ref (A (12 + 6 * i))), some (.int (ytm σ i 10 0))]) (st' := [.int p, .int (ytm σ i 10 0)]) (by decide +kernel) rfl ?_
          refine V.icmp_gt hF (off := 14) (tgt := 67) (by decide +kernel) (by decide) (fun c3 => ?_) (fun c3 => ?_)
          · skip
            refine V.run hF [(.iinc 5 1, 3, .int 1), (.goto (-52), 3, .null)] (pc' := 18) (L' := [some (.ref (A 0)), some (.int p), some (.int (gMI σ p (min i (gT σ)))), some (.ref (A 2)), some (.int (nI 8)), some (.int ((nI i) + 1)), some (.ref (A (12 + 6 * i))), some (.int (ytm σ i 10 0))]) (st' := []) (by decide +kernel) rfl ?_
            rw [nI_1 i]
            have := ih c1
            rw [e1, gMI, sumT, e2, gMl, if_neg c2, if_pos c3, Int32.add_zero] at this
            rw [e2]
            exact V.loc (fun j v hv => by
              match j, hv with
              | 0, hv => exact hv
              | 1, hv => exact hv
              | 2, hv => exact hv
              | 3, hv => exact hv
              | 4, hv => exact hv
              | 5, hv => exact hv
              | 6, hv => cases hv
              | 7, hv => cases hv
              | q + 8, hv => cases hv) this
          · skip
            refine V.run hF [(.iload_n 2, 1, .null), (.aload 6, 2, .null)] (pc' := 59) (L' := [some (.ref (A 0)), some (.int p), some (.int (gMI σ p (min i (gT σ)))), some (.ref (A 2)), some (.int (nI 8)), some (.int (nI i)), some (.ref (A (12 + 6 * i))), some (.int (ytm σ i 10 0))]) (st' := [.ref (A (12 + 6 * i)), .int (gMI σ p (min i (gT σ)))]) (by decide +kernel) rfl ?_
            refine V.getf hG hF k_RX3_56 (by decide +kernel) t1 rfl ?_
            refine V.callVN (As := []) (st := [.int (gMI σ p (min i (gT σ)))]) hG hF k_RX3_158 (by decide +kernel) (c_X0_sum hG t2 t3) t2.1 rfl rfl ⟨by rw [hRm]; decide, by rw [hRm]; decide⟩ (Nat.le_of_ble_eq_true rfl) rfl (fun v h_3 gp3 => ?_)
            obtain ⟨rfl, he_gp3⟩ := gp3
            rw [he_gp3]
            show V G F _ _ _ 65 [some (.ref (A 0)), some (.int p), some (.int (gMI σ p (min i (gT σ)))), some (.ref (A 2)), some (.int (nI 8)), some (.int (nI i)), some (.ref (A (12 + 6 * i))), some (.int (ytm σ i 10 0))] [.int (sm (gM σ i) (gn σ i)), .int (gMI σ p (min i (gT σ)))] h
            refine V.run hF [(.iadd, 1, .null), (.istore_n 2, 1, .null), (.iinc 5 1, 3, .int 1), (.goto (-52), 3, .null)] (pc' := 18) (L' := [some (.ref (A 0)), some (.int p), some (.int (gMI σ p (min i (gT σ)) + sm (gM σ i) (gn σ i))), some (.ref (A 2)), some (.int (nI 8)), some (.int ((nI i) + 1)), some (.ref (A (12 + 6 * i))), some (.int (ytm σ i 10 0))]) (st' := []) (by decide +kernel) rfl ?_
            rw [nI_1 i]
            have := ih c1
            rw [e1, gMI, sumT, e2, gMl, if_neg c2, if_neg c3] at this
            rw [e2]
            exact V.loc (fun j v hv => by
              match j, hv with
              | 0, hv => exact hv
              | 1, hv => exact hv
              | 2, hv => exact hv
              | 3, hv => exact hv
              | 4, hv => exact hv
              | 5, hv => exact hv
              | 6, hv => cases hv
              | 7, hv => cases hv
              | q + 8, hv => cases hv) this
      · skip
        refine V.aaldZ (j := i) hG hF (by decide +kernel) h2 (by omega) (by decide) (shf_out ht) ?_
        refine V.run hF [(.astore 6, 2, .null), (.aload 6, 2, .null)] (pc' := 33) (L' := [some (.ref (A 0)), some (.int p), some (.int (gMI σ p (min i (gT σ)))), some (.ref (A 2)), some (.int (nI 8)), some (.int (nI i)), some (.null), none]) (st' := [.null]) (by decide +kernel) rfl ?_
        refine V.ifnull0 hF (off := 34) (tgt := 67) (by decide +kernel) (by decide) ?_
        refine V.run hF [(.iinc 5 1, 3, .int 1), (.goto (-52), 3, .null)] (pc' := 18) (L' := [some (.ref (A 0)), some (.int p), some (.int (gMI σ p (min i (gT σ)))), some (.ref (A 2)), some (.int (nI 8)), some (.int ((nI i) + 1)), some (.null), none]) (st' := []) (by decide +kernel) rfl ?_
        rw [nI_1 i]
        have := ih c1
        rw [min_e ht] at this
        exact V.loc (fun j v hv => by
          match j, hv with
          | 0, hv => exact hv
          | 1, hv => exact hv
          | 2, hv => exact hv
          | 3, hv => exact hv
          | 4, hv => exact hv
          | 5, hv => exact hv
          | 6, hv => cases hv
          | 7, hv => cases hv
          | q + 8, hv => cases hv) this
  refine V.run hF [(.iconst 0, 1, .int 0), (.istore_n 2, 1, .null), (.aload_n 0, 1, .null)] (pc' := 7) (L' := [some (.ref (A 0)), some (.int p), some (.int 0), none, none, none, none, none]) (st' := [.ref (A 0)]) (by decide +kernel) rfl ?_
  refine V.getf hG hF k_RX3_15 (by decide +kernel) hA rfl ?_
  refine V.run hF [(.astore_n 3, 1, .null), (.aload_n 3, 1, .null)] (pc' := 12) (L' := [some (.ref (A 0)), some (.int p), some (.int 0), some (.ref (A 2)), none, none, none, none]) (st' := [.ref (A 2)]) (by decide +kernel) rfl ?_
  refine V.alen hG hF (by decide +kernel) (by decide) h2 ?_
  show V G F _ _ _ 13 [some (.ref (A 0)), some (.int p), some (.int 0), some (.ref (A 2)), none, none, none, none] [.int (nI 8)] h
  refine V.run hF [(.istore 4, 2, .null), (.iconst 0, 1, .int 0), (.istore 5, 2, .null)] (pc' := 18) (L' := [some (.ref (A 0)), some (.int p), some (.int 0), some (.ref (A 2)), some (.int (nI 8)), some (.int 0), none, none]) (st' := []) (by decide +kernel) rfl ?_
  exact loop 0 (Nat.zero_le _)
end Su
end
section
/-! ===== the state, changed in one place ===== -/
def sTab (σ : Sg) (t : Nat) (ha ce : Int32) (n : Nat) (D C M W : Nat → Int32) : Sg := (gth σ, gT σ, va_up (gha σ) t ha, va_up (gce σ) t ce, va_up (gn σ) t n, (va_up (gDD σ) t D, va_up (gC σ) t C, va_up (gM σ) t M, va_up (gW σ) t W), ghe σ, gy σ, gme σ, gde σ)
def sYmd (σ : Sg) (y : Nat) (me de : Int32) : Sg := (gth σ, gT σ, gha σ, gce σ, gn σ, (gDD σ, gC σ, gM σ, gW σ), ghe σ, y, me, de)
def sTh (σ : Sg) (th : Nat → Int32) : Sg := (th, gT σ, gha σ, gce σ, gn σ, (gDD σ, gC σ, gM σ, gW σ), ghe σ, gy σ, gme σ, gde σ)
def sHe (σ : Sg) (he : Nat → Int32) : Sg := (gth σ, gT σ, gha σ, gce σ, gn σ, (gDD σ, gC σ, gM σ, gW σ), he, gy σ, gme σ, gde σ)
theorem vu_s {α : Type} {f : Nat → α} {t : Nat} {v : α} : va_up f t v t = v := if_pos rfl
theorem vu_n {α : Type} {f : Nat → α} {t j : Nat} {v : α} (h : j ≠ t) : va_up f t v j = f j := if_neg h
theorem vu_i {α : Type} {f : Nat → α} {t : Nat} : va_up f t (f t) = f := by
  funext j
  unfold va_up
  by_cases h : j = t
  · rw [if_pos h, h]
  · rw [if_neg h]
section Cu
variable {h h' : Hp} {A : Nat → Nat} {σ : Sg} {P P' : PS} {r r' : Nat → Int32}
/-- the cells that stay -/
theorem CS.tb (hC : CS h A σ P r) {t : Nat} (ht : t < gT σ) (e : ∀ i, 12 + 6 * t ≤ i → i < 18 + 6 * t → h' (A i) = h (A i)) : TBc h' A σ t := by
  obtain ⟨t1, t2, t3⟩ := hC.2.2.2.2.2.2.2.2 t ht
  refine ⟨(e _ (by omega) (by omega)).trans t1, t2.mv (fun q hq => ?_), t3⟩
  simp only [List.mem_cons, List.not_mem_nil, or_false] at hq
  rcases hq with rfl | rfl | rfl | rfl | rfl <;> exact e _ (by omega) (by omega)
theorem SMc.mv (hS : SMc h (A 4) (A 6) (A 7) (A 8) (A 9) (A 10) (A 11) P) (e : ∀ i, 4 ≤ i → i ≤ 11 → i ≠ 5 → h' (A i) = h (A i)) : SMc h' (A 4) (A 6) (A 7) (A 8) (A 9) (A 10) (A 11) P := by
  obtain ⟨h1, h2, h3⟩ := hS
  refine ⟨(e 4 (by omega) (by omega) (by omega)).trans h1, (e 6 (by omega) (by omega) (by omega)).trans h2, h3.mv (fun q hq => ?_)⟩
  simp only [List.mem_cons, List.not_mem_nil, or_false] at hq
  rcases hq with rfl | rfl | rfl | rfl | rfl <;> exact e _ (by omega) (by omega) (by omega)
theorem CS.re (hC : CS h A σ P r) (h5 : h' (A 5) = some (.inl (0, 8, .inl r'))) (hk : ∀ q, q ≠ A 5 → h' q = h q) : CS h' A σ P r' := by
  have ne : ∀ i, i < 12 + 6 * gT σ → i ≠ 5 → h' (A i) = h (A i) := fun i hi h => hk _ (hC.1.ne hi (by omega) h)
  obtain ⟨hI, hT8, hA, h1, h2, h3, h4, -, h6⟩ := id hC
  exact ⟨hI, hT8, (ne 0 (by omega) (by omega)).trans hA, (ne 1 (by omega) (by omega)).trans h1, (ne 2 (by omega) (by omega)).trans h2, (ne 3 (by omega) (by omega)).trans h3, SMc.mv h4 (fun i _ g2 g3 => ne i (by omega) g3), h5, fun t ht => hC.tb ht (fun i g1 g2 => ne i (by omega) (by omega))⟩
theorem CS.sm (hC : CS h A σ P r) (h4 : SMc h' (A 4) (A 6) (A 7) (A 8) (A 9) (A 10) (A 11) P') (hk : kp6 h h' (A 6) (A 7) (A 8) (A 9) (A 10) (A 11)) : CS h' A σ P' r := by
  have ne : ∀ i, i < 12 + 6 * gT σ → i < 6 ∨ 11 < i → h' (A i) = h (A i) := fun i hi h => hk _ (hC.1.ne hi (by omega) (by omega)) (hC.1.ne hi (by omega) (by omega)) (hC.1.ne hi (by omega) (by omega)) (hC.1.ne hi (by omega) (by omega)) (hC.1.ne hi (by omega) (by omega)) (hC.1.ne hi (by omega) (by omega))
  obtain ⟨hI, hT8, hA, h1, h2, h3, -, h5, h6⟩ := id hC
  exact ⟨hI, hT8, (ne 0 (by omega) (by omega)).trans hA, (ne 1 (by omega) (by omega)).trans h1, (ne 2 (by omega) (by omega)).trans h2, (ne 3 (by omega) (by omega)).trans h3, h4, (ne 5 (by omega) (by omega)).trans h5, fun t ht => hC.tb ht (fun i g1 g2 => ne i (by omega) (by omega))⟩
theorem CS.tab (hC : CS h A σ P r) {t : Nat} (ht : t < gT σ) {ha ce : Int32} {n : Nat} {D C M W : Nat → Int32} (g1 : h' (A (12 + 6 * t)) = some (.inr (2, [.int ha, .int ce, .ref (A (13 + 6 * t))]))) (g2 : LLc h' (A (13 + 6 * t)) (A (14 + 6 * t)) (A (15 + 6 * t)) (A (16 + 6 * t)) (A (17 + 6 * t)) D C M W n) (g3 : n ≤ 12)
    (hk : ∀ q, (∀ i, 12 + 6 * t ≤ i → i < 18 + 6 * t → q ≠ A i) → h' q = h q) : CS h' A (sTab σ t ha ce n D C M W) P r := by
  have ne : ∀ i, i < 12 + 6 * gT σ → i < 12 + 6 * t ∨ 18 + 6 * t ≤ i → h' (A i) = h (A i) := fun i hi h => hk _ (fun j e1 e2 => hC.1.ne hi (by omega) (by omega))
  obtain ⟨hI, hT8, hA, h1, h2, h3, h4, h5, h6⟩ := id hC
  refine ⟨hI, hT8, (ne 0 (by omega) (by omega)).trans hA, (ne 1 (by omega) (by omega)).trans h1, (ne 2 (by omega) (by omega)).trans h2, (ne 3 (by omega) (by omega)).trans h3, SMc.mv h4 (fun i _ g2 _ => ne i (by omega) (by omega)), (ne 5 (by omega) (by omega)).trans h5, fun t' ht' => ?_⟩
  by_cases e : t' = t
  · subst e
    unfold TBc sTab
    simp only [gha, gce, gn, gDD, gC, gM, gW, vu_s]
    exact ⟨g1, g2, g3⟩
  · have := hC.tb (h' := h') ht' (fun i q1 q2 => ne i (by have : t' < gT σ := ht'; omega) (by omega))
    unfold TBc sTab
    simp only [gha, gce, gn, gDD, gC, gM, gW, vu_n e]
    exact this
theorem CS.ymd (hC : CS h A σ P r) {y : Nat} {me de : Int32} (hA : h' (A 0) = some (.inr (3, [.ref (A 1), .ref (A 2), .ref (A 3), .ref (A 4), .ref (A 5), .int (nI (gT σ)), .int (nI y), .int me, .int de]))) (hk : ∀ q, q ≠ A 0 → h' q = h q) : CS h' A (sYmd σ y me de) P r := by
  have ne : ∀ i, i < 12 + 6 * gT σ → i ≠ 0 → h' (A i) = h (A i) := fun i hi h => hk _ (hC.1.ne hi (by omega) h)
  obtain ⟨hI, hT8, -, h1, h2, h3, h4, h5, h6⟩ := id hC
  exact ⟨hI, hT8, hA, (ne 1 (by omega) (by omega)).trans h1, (ne 2 (by omega) (by omega)).trans h2, (ne 3 (by omega) (by omega)).trans h3, SMc.mv h4 (fun i _ _ _ => ne i (by omega) (by omega)), (ne 5 (by omega) (by omega)).trans h5, fun t ht => hC.tb (σ := σ) ht (fun i g1 g2 => ne i (by have : t < gT σ := ht; omega) (by omega))⟩
theorem CS.th (hC : CS h A σ P r) {th : Nat → Int32} (h1 : h' (A 1) = some (.inl (1, 8, .inl th))) (hk : ∀ q, q ≠ A 1 → h' q = h q) : CS h' A (sTh σ th) P r := by
  have ne : ∀ i, i < 12 + 6 * gT σ → i ≠ 1 → h' (A i) = h (A i) := fun i hi h => hk _ (hC.1.ne hi (by omega) h)
  obtain ⟨hI, hT8, hA, -, h2, h3, h4, h5, h6⟩ := id hC
  exact ⟨hI, hT8, (ne 0 (by omega) (by omega)).trans hA, h1, (ne 2 (by omega) (by omega)).trans h2, (ne 3 (by omega) (by omega)).trans h3, SMc.mv h4 (fun i _ _ _ => ne i (by omega) (by omega)), (ne 5 (by omega) (by omega)).trans h5, fun t ht => hC.tb (σ := σ) ht (fun i g1 g2 => ne i (by have : t < gT σ := ht; omega) (by omega))⟩
theorem CS.he (hC : CS h A σ P r) {he : Nat → Int32} (h3 : h' (A 3) = some (.inl (0, 10, .inl he))) (hk : ∀ q, q ≠ A 3 → h' q = h q) : CS h' A (sHe σ he) P r := by
  have ne : ∀ i, i < 12 + 6 * gT σ → i ≠ 3 → h' (A i) = h (A i) := fun i hi h => hk _ (hC.1.ne hi (by omega) h)
  obtain ⟨hI, hT8, hA, h1, h2, -, h4, h5, h6⟩ := id hC
  exact ⟨hI, hT8, (ne 0 (by omega) (by omega)).trans hA, (ne 1 (by omega) (by omega)).trans h1, (ne 2 (by omega) (by omega)).trans h2, h3, SMc.mv h4 (fun i _ _ _ => ne i (by omega) (by omega)), (ne 5 (by omega) (by omega)).trans h5, fun t ht => hC.tb (σ := σ) ht (fun i g1 g2 => ne i (by have : t < gT σ := ht; omega) (by omega))⟩
/-- nothing but the class's own cells is touched -/
def kpC (h h' : Hp) (A : Nat → Nat) (K : Nat) : Prop := ∀ q, (∀ i, i < K → q ≠ A i) → h' q = h q
theorem kpC.rf {K : Nat} : kpC h h A K := fun _ _ => rfl
theorem kpC.tr {h1 h2 : Hp} {K : Nat} (p : kpC h h1 A K) (q : kpC h1 h2 A K) : kpC h h2 A K := fun x e => (q x e).trans (p x e)
theorem kpC.one {K i : Nat} (hi : i < K) (hk : ∀ q, q ≠ A i → h' q = h q) : kpC h h' A K := fun q e => hk q (e i hi)
theorem kpC.k6 {K : Nat} (hK : 12 ≤ K) (hk : kp6 h h' (A 6) (A 7) (A 8) (A 9) (A 10) (A 11)) : kpC h h' A K := fun q e => hk q (e _ (by omega)) (e _ (by omega)) (e _ (by omega)) (e _ (by omega)) (e _ (by omega)) (e _ (by omega))
end Cu
end
section
/-! ===== TallyWax: what would be ===== -/
def pr (th : Nat → Int32) : Nat → (Nat → Int32) → Bool × Nat
  | 0, _ => (true, 0)
  | f + 1, b => if b (pmin b 7) < 0 then (match wf th (pmin b 7) (pmax b 7) 8 0 with
    | none => (false, 0)
    | some _ => ((pr th f (pb2 b (pmin b 7) (pmax b 7))).1, (pr th f (pb2 b (pmin b 7) (pmax b 7))).2 + 1)) else (true, 0)
theorem pl_pr {th : Nat → Int32} : ∀ (f : Nat) (s : PS), (pl th f s).1 = (pr th f (pB s)).1 ∧ pn (pl th f s).2 = pn s + (pr th f (pB s)).2
  | 0, s => ⟨rfl, rfl⟩
  | f + 1, s => by
    unfold pr
    by_cases hb : pB s (pmin (pB s) 7) < 0
    · rw [if_pos hb]
      cases hw : wf th (pmin (pB s) 7) (pmax (pB s) 7) 8 0 with
      | none =>
        rw [pl_none hb hw]
        exact ⟨rfl, rfl⟩
      | some w =>
        rw [pl_some hb hw]
        obtain ⟨e1, e2⟩ := pl_pr (th := th) f (pstp s (pmin (pB s) 7) (pmax (pB s) 7) w)
        refine ⟨e1, e2.trans ?_⟩
        show pn s + 1 + _ = pn s + (_ + 1)
        have : pB (pstp s (pmin (pB s) 7) (pmax (pB s) 7) w) = pb2 (pB s) (pmin (pB s) 7) (pmax (pB s) 7) := rfl
        rw [this]
        omega
    · rw [if_neg hb, pl_neg hb]
      exact ⟨rfl, rfl⟩
theorem pr_le {th : Nat → Int32} : ∀ (f : Nat) (b : Nat → Int32), (pr th f b).2 ≤ f
  | 0, _ => Nat.le_refl _
  | f + 1, b => by
    unfold pr
    split
    · split
      · exact Nat.zero_le _
      · exact Nat.succ_le_succ (pr_le f _)
    · exact Nat.zero_le _
abbrev gbal (σ : Sg) (t : Nat) : Nat → Int32 := balN (gDD σ t) (gC σ t) (gM σ t) (gn σ t)
def lf (σ : Sg) (t : Nat) : Int32 := if (pr (gth σ) 8 (gbal σ t)).1 = true then nI (pr (gth σ) 8 (gbal σ t)).2 else -1
def sv (σ : Sg) (t : Nat) : Int32 := if lf σ t = -1 then 0 else nI (gn σ t) - lf σ t
section Ca
variable {G : Gt} {h : Hp} {A : Nat → Nat} {σ : Sg} {P : PS} {r : Nat → Int32}
theorem CS.nd6 (hC : CS h A σ P r) : nd6 (A 6) (A 7) (A 8) (A 9) (A 10) (A 11) := by
  have n : ∀ i j, i < 12 → j < 12 → i ≠ j → A i ≠ A j := fun i j hi hj => hC.1.ne (by omega) (by omega)
  exact ⟨⟨n _ _ (by omega) (by omega) (by omega), n _ _ (by omega) (by omega) (by omega), n _ _ (by omega) (by omega) (by omega), n _ _ (by omega) (by omega) (by omega), n _ _ (by omega) (by omega) (by omega)⟩, n _ _ (by omega) (by omega) (by omega), n _ _ (by omega) (by omega) (by omega), n _ _ (by omega) (by omega) (by omega), n _ _ (by omega) (by omega) (by omega), n _ _ (by omega) (by omega) (by omega), n _ _ (by omega) (by omega) (by omega)⟩
theorem CS.dj6 (hC : CS h A σ P r) {t : Nat} (ht : t < gT σ) : dj6 [A (13 + 6 * t), A (14 + 6 * t), A (15 + 6 * t), A (16 + 6 * t), A (17 + 6 * t), A 1] (A 6) (A 7) (A 8) (A 9) (A 10) (A 11) := by
  intro x hx y hy
  simp only [List.mem_cons, List.not_mem_nil, or_false] at hx hy
  rcases hx with rfl | rfl | rfl | rfl | rfl | rfl <;> rcases hy with rfl | rfl | rfl | rfl | rfl | rfl <;> exact hC.1.ne (by omega) (by omega) (by omega)
theorem CS.nd4 (hC : CS h A σ P r) {t : Nat} (ht : t < gT σ) : nd4 (A (14 + 6 * t)) (A (15 + 6 * t)) (A (16 + 6 * t)) (A (17 + 6 * t)) := by
  have n : ∀ i j, i < 12 + 6 * gT σ → j < 12 + 6 * gT σ → i ≠ j → A i ≠ A j := fun i j hi hj => hC.1.ne hi hj
  exact ⟨n _ _ (by omega) (by omega) (by omega), n _ _ (by omega) (by omega) (by omega), n _ _ (by omega) (by omega) (by omega), n _ _ (by omega) (by omega) (by omega), n _ _ (by omega) (by omega) (by omega), n _ _ (by omega) (by omega) (by omega)⟩
/-- the answer x, the state as it was, but what smoothing reckons on -/
def is_s (A : Nat → Nat) (σ : Sg) (r : Nat → Int32) (h : Hp) (x : Int32) : Option Value → Hp → Prop := fun v h' => v = some (.int x) ∧ ∃ P', CS h' A σ P' r ∧ kpC h h' A (12 + 6 * gT σ)
set_option maxHeartbeats 4000000 in
theorem c_X3_linesLeftOn (hG : GOk G) (hC : CS h A σ P r) {t : Nat} (ht : t < gT σ) : Ct G yX3_linesLeftOn (.code yX3_linesLeftOn cX3_linesLeftOn 2 (some .int)) 3 74 0 0 [.ref (A 0), .ref (A (12 + 6 * t))] h (is_s A σ r h (lf σ t)) pxN := by
  refine Ct.of (by decide +kernel) (Nat.le_of_ble_eq_true rfl) fun F hF hT hN hRm => ?_
  obtain ⟨hI, hT8, hA, h1, h2, h3, h4, h5, h6⟩ := id hC
  obtain ⟨t1, t2, t3⟩ := h6 t ht
  refine V.run hF [(.aload_n 0, 1, .null)] (pc' := 1) (L' := [some (.ref (A 0)), some (.ref (A (12 + 6 * t)))]) (st' := [.ref (A 0)]) (by decide +kernel) rfl ?_
  refine V.getf hG hF k_RX3_26 (by decide +kernel) hA rfl ?_
  refine V.run hF [(.aload_n 1, 1, .null)] (pc' := 5) (L' := [some (.ref (A 0)), some (.ref (A (12 + 6 * t)))]) (st' := [.ref (A (12 + 6 * t)), .ref (A 4)]) (by decide +kernel) rfl ?_
  refine V.getf hG hF k_RX3_56 (by decide +kernel) t1 rfl ?_
  refine V.run hF [(.aload_n 0, 1, .null)] (pc' := 9) (L' := [some (.ref (A 0)), some (.ref (A (12 + 6 * t)))]) (st' := [.ref (A 0), .ref (A (13 + 6 * t)), .ref (A 4)]) (by decide +kernel) rfl ?_
  refine V.getf hG hF k_RX3_9 (by decide +kernel) hA rfl ?_
  refine V.callVN (As := [.ref (A (13 + 6 * t)), .ref (A 1)]) (st := []) hG hF k_RX3_109 (by decide +kernel) (c_X1_plan hG h4 hC.nd6 t2 t3 h1 (hC.dj6 ht)) h4.1 rfl rfl ⟨by rw [hRm]; decide, by rw [hRm]; decide⟩ (Nat.le_of_ble_eq_true rfl) rfl (fun v h2 hp => ?_)
  obtain ⟨rfl, hS, hk⟩ := hp
  obtain ⟨e1, e2⟩ := pl_pr (th := gth σ) 8 (pl0 (gDD σ t) (gC σ t) (gM σ t) (gn σ t) P)
  rw [e1]
  have hC2 := hC.sm hS hk
  have hkC : kpC h h2 A (12 + 6 * gT σ) := kpC.k6 (by omega) hk
  obtain ⟨-, -, hA2, -, -, -, h42, -, -⟩ := id hC2
  have e3 : pn (pl (gth σ) 8 (pl0 (gDD σ t) (gC σ t) (gM σ t) (gn σ t) P)).2 = (pr (gth σ) 8 (gbal σ t)).2 := e2.trans (Nat.zero_add _)
  have hLL := h42.2.2
  rw [LLc, e3] at hLL
  show V G F _ _ _ 15 [some (.ref (A 0)), some (.ref (A (12 + 6 * t)))] [.int (tf ((pr (gth σ) 8 (gbal σ t)).1 = true))] h2
  refine V.if_eq hF (off := 16) (tgt := 31) (by decide +kernel) (by decide) (fun c1 => ?_) (fun c1 => ?_)
  · have q : ¬ (pr (gth σ) 8 (gbal σ t)).1 = true := fun q => by
      rw [tf, if_pos q] at c1; cases c1
    refine V.run hF [(.iconst (-1), 1, .int (-1))] (pc' := 32) (L' := [some (.ref (A 0)), some (.ref (A (12 + 6 * t)))]) (st' := [.int (-1)]) (by decide +kernel) rfl ?_
    exact V.reti hF (by decide +kernel) ⟨by rw [lf, if_neg q], _, hC2, hkC⟩
  · skip
    have q : (pr (gth σ) 8 (gbal σ t)).1 = true := by
      by_cases q : (pr (gth σ) 8 (gbal σ t)).1 = true
      · exact q
      · rw [tf, if_neg q] at c1; exact absurd rfl c1
    refine V.run hF [(.aload_n 0, 1, .null)] (pc' := 19) (L' := [some (.ref (A 0)), some (.ref (A (12 + 6 * t)))]) (st' := [.ref (A 0)]) (by decide +kernel) rfl ?_
    refine V.getf hG hF k_RX3_26 (by decide +kernel) hA2 rfl ?_
    refine V.getf hG hF k_RX3_115 (by decide +kernel) h42.1 rfl ?_
    refine V.getf hG hF k_RX3_67 (by decide +kernel) hLL.1 rfl ?_
    refine V.run hF [(.goto 4, 3, .null)] (pc' := 32) (L' := [some (.ref (A 0)), some (.ref (A (12 + 6 * t)))]) (st' := [.int (nI (pr (gth σ) 8 (gbal σ t)).2)]) (by decide +kernel) rfl ?_
    exact V.reti hF (by decide +kernel) ⟨by rw [lf, if_pos q], _, hC2, hkC⟩
/-- best so far, and by how much -/
def bst (σ : Sg) : Nat → Int32 × Int32
  | 0 => (-1, 0)
  | i + 1 => if (bst σ i).2 < (if i < gT σ then sv σ i else 0) then (nI i, if i < gT σ then sv σ i else 0) else bst σ i
set_option maxHeartbeats 4000000 in
theorem c_X3_richest (hG : GOk G) (hC : CS h A σ P r) : Ct G yX3_richest (.code yX3_richest cX3_richest 5 (some .int)) 2 49 0 0 [.ref (A 0)] h (is_i (nI (pmax (fun p => balT σ (nI p) (gT σ)) 7)) h) pxN := by
  refine Ct.of (by decide +kernel) (Nat.le_of_ble_eq_true rfl) fun F hF hT hN hRm => ?_
  obtain ⟨B, hB⟩ : ∃ B : Nat → Int32, B = fun p => balT σ (nI p) (gT σ) := ⟨_, rfl⟩
  rw [← hB]
  have cB : ∀ p : Nat, Ct G yX3_balanceOf (.code yX3_balanceOf cX3_balanceOf 7 (some .int)) 1 23 0 0 [.ref (A 0), .int (nI p)] h (is_i (B p) h) pxN := fun p => by
    rw [hB]
    exact c_X3_balanceOf hG hC (nI p)
  have loop : ∀ i, i ≤ 7 → V G F (fin G F (is_i (nI (pmax B 7)) h) pxN) 0 0 10 [some (.ref (A 0)), some (.int (nI (pmax B i))), some (.int (B (pmax B i))), some (.int (nI (i + 1))), none] [] h := by
    refine lp_up 7 fun i hi ih => ?_
    have dr : ∀ {x y : Int32} {u : Option Value}, V G F (fin G F (is_i (nI (pmax B 7)) h) pxN) 0 0 10 [some (.ref (A 0)), some (.int x), some (.int y), some (.int (nI (i + 1 + 1))), none] [] h → V G F (fin G F (is_i (nI (pmax B 7)) h) pxN) 0 0 10 [some (.ref (A 0)), some (.int x), some (.int y), some (.int (nI (i + 1 + 1))), u] [] h := fun k => V.loc (fun j v hv => by
      match j, hv with
      | 0, hv => exact hv
      | 1, hv => exact hv
      | 2, hv => exact hv
      | 3, hv => exact hv
      | 4, hv => cases hv
      | q + 5, hv => cases hv) k
    refine V.run hF [(.iload_n 3, 1, .null), (.bipush 8, 2, .int (nI 8))] (pc' := 13) (L' := [some (.ref (A 0)), some (.int (nI (pmax B i))), some (.int (B (pmax B i))), some (.int (nI (i + 1))), none]) (st' := [.int (nI 8), .int (nI (i + 1))]) (by decide +kernel) rfl ?_
    refine V.icmpN_ge (i := i + 1) (j := 8) hF (off := 27) (tgt := 40) (by decide +kernel) (by decide) (by omega) (by omega) (fun c1 => ?_) (fun c1 => ?_)
    · have e : i = 7 := by omega
      refine V.run hF [(.iload_n 1, 1, .null)] (pc' := 41) (L' := [some (.ref (A 0)), some (.int (nI (pmax B i))), some (.int (B (pmax B i))), some (.int (nI (i + 1))), none]) (st' := [.int (nI (pmax B i))]) (by decide +kernel) rfl ?_
      exact V.reti hF (by decide +kernel) ⟨by rw [e], rfl⟩
    · skip
      refine V.run hF [(.aload_n 0, 1, .null), (.iload_n 3, 1, .null)] (pc' := 18) (L' := [some (.ref (A 0)), some (.int (nI (pmax B i))), some (.int (B (pmax B i))), some (.int (nI (i + 1))), none]) (st' := [.int (nI (i + 1)), .ref (A 0)]) (by decide +kernel) rfl ?_
      refine V.callV (As := [.int (nI (i + 1))]) (st := []) hG hF k_RX3_149 (by decide +kernel) (cB (i + 1)) hC.2.2.1 rfl rfl ⟨by rw [hRm]; decide, by rw [hRm]; decide⟩ (Nat.le_of_ble_eq_true rfl) rfl (fun v h_1 gp1 => ?_) (fun E h9 hx => hx.elim)
      obtain ⟨rfl, he_gp1⟩ := gp1
      rw [he_gp1]
      show V G F _ _ _ 21 [some (.ref (A 0)), some (.int (nI (pmax B i))), some (.int (B (pmax B i))), some (.int (nI (i + 1))), none] [.int (B (i + 1))] h
      refine V.run hF [(.istore 4, 2, .null), (.iload 4, 2, .null), (.iload_n 2, 1, .null)] (pc' := 26) (L' := [some (.ref (A 0)), some (.int (nI (pmax B i))), some (.int (B (pmax B i))), some (.int (nI (i + 1))), some (.int (B (i + 1)))]) (st' := [.int (B (pmax B i)), .int (B (i + 1))]) (by decide +kernel) rfl ?_
      have := ih (by omega)
      refine V.icmp_le hF (off := 8) (tgt := 34) (by decide +kernel) (by decide) (fun c2 => ?_) (fun c2 => ?_)
      · skip
        refine V.run hF [(.iinc 3 1, 3, .int 1), (.goto (-27), 3, .null)] (pc' := 10) (L' := [some (.ref (A 0)), some (.int (nI (pmax B i))), some (.int (B (pmax B i))), some (.int ((nI (i + 1)) + 1)), some (.int (B (i + 1)))]) (st' := []) (by decide +kernel) rfl ?_
        rw [nI_1 (i + 1)]
        have e : pmax B (i + 1) = pmax B i := by rw [pmax, if_neg (Int32.not_lt.mpr c2)]
        rw [e] at this
        exact dr this
      · skip
        refine V.run hF [(.iload_n 3, 1, .null), (.istore_n 1, 1, .null), (.iload 4, 2, .null), (.istore_n 2, 1, .null), (.iinc 3 1, 3, .int 1), (.goto (-27), 3, .null)] (pc' := 10) (L' := [some (.ref (A 0)), some (.int (nI (i + 1))), some (.int (B (i + 1))), some (.int ((nI (i + 1)) + 1)), some (.int (B (i + 1)))]) (st' := []) (by decide +kernel) rfl ?_
        rw [nI_1 (i + 1)]
        have e : pmax B (i + 1) = i + 1 := by rw [pmax, if_pos (Int32.not_le.mp c2)]
        rw [e] at this
        exact dr this
  refine V.run hF [(.iconst 0, 1, .int 0), (.istore_n 1, 1, .null), (.aload_n 0, 1, .null), (.iconst 0, 1, .int (nI 0))] (pc' := 4) (L' := [some (.ref (A 0)), some (.int 0), none, none, none]) (st' := [.int (nI 0), .ref (A 0)]) (by decide +kernel) rfl ?_
  refine V.callV (As := [.int (nI 0)]) (st := []) hG hF k_RX3_149 (by decide +kernel) (cB 0) hC.2.2.1 rfl rfl ⟨by rw [hRm]; decide, by rw [hRm]; decide⟩ (Nat.le_of_ble_eq_true rfl) rfl (fun v h_2 gp2 => ?_) (fun E h9 hx => hx.elim)
  obtain ⟨rfl, he_gp2⟩ := gp2
  rw [he_gp2]
  show V G F _ _ _ 7 [some (.ref (A 0)), some (.int 0), none, none, none] [.int (B 0)] h
  refine V.run hF [(.istore_n 2, 1, .null), (.iconst 1, 1, .int 1), (.istore_n 3, 1, .null)] (pc' := 10) (L' := [some (.ref (A 0)), some (.int 0), some (.int (B 0)), some (.int 1), none]) (st' := []) (by decide +kernel) rfl ?_
  exact loop 0 (Nat.zero_le _)
end Ca
end
section
/-! ===== TallyWax: who owes along; years ===== -/
abbrev hB (x : Int32) (v : Nat) : Prop := ¬ (x >>> (nI v &&& 31)) &&& 1 = 0
def whF (v : Nat) : Nat → (Nat → Int32) → (Nat → Int32)
  | 0, r => r
  | f + 1, r => if hB (whF v f r f) v then upd (whF v f r) f (whF v f r f ||| whF v f r v) else whF v f r
def whV : Nat → (Nat → Int32) → (Nat → Int32)
  | 0, r => r
  | v + 1, r => whF v 8 (whV v r)
abbrev R0 (σ : Sg) : Nat → Int32 := fun p => cbT σ (nI p) (gT σ)
def ush (x : Int32) (k : Int32) : Int32 := (Int32.toUInt32 x >>> (Int32.toUInt32 k &&& Int32.toUInt32 31)).toInt32
def bc1 (x : Int32) : Int32 := x - ush x 1 &&& 1431655765
def bcA (x : Int32) : Int32 := x - (ush x 1 &&& 1431655765)
def bcB (x : Int32) : Int32 := (x &&& 858993459) + (ush x 2 &&& 858993459)
def bcC (x : Int32) : Int32 := (x + ush x 4) &&& 252645135
def bcD (x : Int32) : Int32 := x + ush x 8
def bcE (x : Int32) : Int32 := x + ush x 16
def bcf (x : Int32) : Int32 := bcE (bcD (bcC (bcB (bcA x)))) &&& 63
section Re
variable {G : Gt} {h : Hp} {A : Nat → Nat} {σ : Sg} {P : PS} {r : Nat → Int32}
set_option maxHeartbeats 4000000 in
theorem c_J_bitCount (hG : GOk G) (x : Int32) : Ct G yJ6_bitCount_0f7a4 (.code yJ6_bitCount_0f7a4 cJ6_bitCount_0f7a4 1 (some .int)) 0 0 0 0 [.int x] h (is_i (bcf x) h) pxN := by
  refine Ct.ofJ (by decide +kernel) (Nat.le_of_ble_eq_true rfl) fun F hF hT hN hRm => ?_
  refine V.run hF [(.iload_n 0, 1, .null), (.iload_n 0, 1, .null), (.iconst 1, 1, .int 1), (.iushr, 1, .null)] (pc' := 4) (L' := [some (.int x)]) (st' := [.int ((Int32.toUInt32 x >>> (Int32.toUInt32 1 &&& Int32.toUInt32 31)).toInt32), .int x]) (by decide +kernel) rfl ?_
  refine V.ldcw hG hF tw_329 (by decide +kernel) ?_
  refine V.run hF [(.iand, 1, .null), (.isub, 1, .null), (.istore_n 0, 1, .null)] (pc' := 10) (L' := [some (.int (x - (((Int32.toUInt32 x >>> (Int32.toUInt32 1 &&& Int32.toUInt32 31)).toInt32) &&& 1431655765)))]) (st' := []) (by decide +kernel) rfl ?_
  obtain ⟨y1, hy1⟩ : ∃ y : Int32, y = x - (((Int32.toUInt32 x >>> (Int32.toUInt32 1 &&& Int32.toUInt32 31)).toInt32) &&& 1431655765) := ⟨_, rfl⟩
  rw [← hy1]
  refine V.run hF [(.iload_n 0, 1, .null)] (pc' := 11) (L' := [some (.int y1)]) (st' := [.int y1]) (by decide +kernel) rfl ?_
  refine V.ldcw hG hF tw_330 (by decide +kernel) ?_
  refine V.run hF [(.iand, 1, .null), (.iload_n 0, 1, .null), (.iconst 2, 1, .int 2), (.iushr, 1, .null)] (pc' := 18) (L' := [some (.int y1)]) (st' := [.int ((Int32.toUInt32 y1 >>> (Int32.toUInt32 2 &&& Int32.toUInt32 31)).toInt32), .int (y1 &&& 858993459)]) (by decide +kernel) rfl ?_
  refine V.ldcw hG hF tw_330 (by decide +kernel) ?_
  refine V.run hF [(.iand, 1, .null), (.iadd, 1, .null), (.istore_n 0, 1, .null)] (pc' := 24) (L' := [some (.int ((y1 &&& 858993459) + (((Int32.toUInt32 y1 >>> (Int32.toUInt32 2 &&& Int32.toUInt32 31)).toInt32) &&& 858993459)))]) (st' := []) (by decide +kernel) rfl ?_
  obtain ⟨y2, hy2⟩ : ∃ y : Int32, y = (y1 &&& 858993459) + (((Int32.toUInt32 y1 >>> (Int32.toUInt32 2 &&& Int32.toUInt32 31)).toInt32) &&& 858993459) := ⟨_, rfl⟩
  rw [← hy2]
  refine V.run hF [(.iload_n 0, 1, .null), (.iload_n 0, 1, .null), (.iconst 4, 1, .int 4), (.iushr, 1, .null), (.iadd, 1, .null)] (pc' := 29) (L' := [some (.int y2)]) (st' := [.int (y2 + ((Int32.toUInt32 y2 >>> (Int32.toUInt32 4 &&& Int32.toUInt32 31)).toInt32))]) (by decide +kernel) rfl ?_
  refine V.ldcw hG hF tw_331 (by decide +kernel) ?_
  refine V.run hF [(.iand, 1, .null), (.istore_n 0, 1, .null)] (pc' := 34) (L' := [some (.int ((y2 + ((Int32.toUInt32 y2 >>> (Int32.toUInt32 4 &&& Int32.toUInt32 31)).toInt32)) &&& 252645135))]) (st' := []) (by decide +kernel) rfl ?_
  obtain ⟨y3, hy3⟩ : ∃ y : Int32, y = (y2 + ((Int32.toUInt32 y2 >>> (Int32.toUInt32 4 &&& Int32.toUInt32 31)).toInt32)) &&& 252645135 := ⟨_, rfl⟩
  rw [← hy3]
  refine V.run hF [(.iload_n 0, 1, .null), (.iload_n 0, 1, .null), (.bipush 8, 2, .int (nI 8)), (.iushr, 1, .null), (.iadd, 1, .null), (.istore_n 0, 1, .null)] (pc' := 41) (L' := [some (.int (y3 + ((Int32.toUInt32 y3 >>> (Int32.toUInt32 (nI 8) &&& Int32.toUInt32 31)).toInt32)))]) (st' := []) (by decide +kernel) rfl ?_
  obtain ⟨y4, hy4⟩ : ∃ y : Int32, y = y3 + ((Int32.toUInt32 y3 >>> (Int32.toUInt32 (nI 8) &&& Int32.toUInt32 31)).toInt32) := ⟨_, rfl⟩
  rw [← hy4]
  refine V.run hF [(.iload_n 0, 1, .null), (.iload_n 0, 1, .null), (.bipush 16, 2, .int (nI 16)), (.iushr, 1, .null), (.iadd, 1, .null), (.istore_n 0, 1, .null)] (pc' := 48) (L' := [some (.int (y4 + ((Int32.toUInt32 y4 >>> (Int32.toUInt32 (nI 16) &&& Int32.toUInt32 31)).toInt32)))]) (st' := []) (by decide +kernel) rfl ?_
  obtain ⟨y5, hy5⟩ : ∃ y : Int32, y = y4 + ((Int32.toUInt32 y4 >>> (Int32.toUInt32 (nI 16) &&& Int32.toUInt32 31)).toInt32) := ⟨_, rfl⟩
  rw [← hy5]
  refine V.run hF [(.iload_n 0, 1, .null), (.bipush 63, 2, .int (nI 63)), (.iand, 1, .null)] (pc' := 52) (L' := [some (.int y5)]) (st' := [.int (y5 &&& nI 63)]) (by decide +kernel) rfl ?_
  exact V.reti hF (by decide +kernel) ⟨by rw [hy5, hy4, hy3, hy2, hy1]; rfl, rfl⟩
set_option maxHeartbeats 4000000 in
theorem c_X3_followLines (hG : GOk G) (hC : CS h A σ P r) : Ct G yX3_followLines (.code yX3_followLines cX3_followLines 3 none) 2 49 0 0 [.ref (A 0)] h (is_v fun h' => CS h' A σ P (whV 8 (R0 σ)) ∧ ∀ q, q ≠ A 5 → h' q = h q) pxN := by
  refine Ct.of (by decide +kernel) (Nat.le_of_ble_eq_true rfl) fun F hF hT hN hRm => ?_
  have fn : ∀ {j1 j2 : Int32} {h1 : Hp} {r1 : Nat → Int32}, CS h1 A σ P (whV 8 (R0 σ)) → (∀ q, q ≠ A 5 → h1 q = h q) → V G F (fin G F (is_v fun h' => CS h' A σ P (whV 8 (R0 σ)) ∧ ∀ q, q ≠ A 5 → h' q = h q) pxN) 0 0 81 [some (.ref (A 0)), some (.int j1), none] [] h1 := fun hC1 hk1 => by
    exact V.retv hF (by decide +kernel) ⟨rfl, hC1, hk1⟩
  have loopB : ∀ v, v ≤ 8 → ∀ (h1 : Hp), CS h1 A σ P (whV v (R0 σ)) → (∀ q, q ≠ A 5 → h1 q = h q) → V G F (fin G F (is_v fun h' => CS h' A σ P (whV 8 (R0 σ)) ∧ ∀ q, q ≠ A 5 → h' q = h q) pxN) 0 0 27 [some (.ref (A 0)), some (.int (nI v)), none] [] h1 := by
    refine lp_up 8 fun v hv ih => ?_
    intro h1 hC1 hk1
    have loopC : ∀ f, f ≤ 8 → v < 8 → ∀ (h2 : Hp), CS h2 A σ P (whF v f (whV v (R0 σ))) → (∀ q, q ≠ A 5 → h2 q = h q) → V G F (fin G F (is_v fun h' => CS h' A σ P (whV 8 (R0 σ)) ∧ ∀ q, q ≠ A 5 → h' q = h q) pxN) 0 0 35 [some (.ref (A 0)), some (.int (nI v)), some (.int (nI f))] [] h2 := by
      refine lp_up 8 fun f hf ihf => ?_
      intro hv8 h2 hC2 hk2
      obtain ⟨r2, hr2⟩ : ∃ r2, r2 = whF v f (whV v (R0 σ)) := ⟨_, rfl⟩
      have hw : whF v (f + 1) (whV v (R0 σ)) = if hB (r2 f) v then upd r2 f (r2 f ||| r2 v) else r2 := by rw [whF, hr2]
      rw [← hr2] at hC2
      obtain ⟨hI, hT8, gA, g1, g2, g3, g4, g5, g6⟩ := id hC2
      have n05 : A 0 ≠ A 5 := hI.ne (by omega) (by omega) (by omega)
      refine V.run hF [(.iload_n 2, 1, .null), (.bipush 8, 2, .int (nI 8))] (pc' := 38) (L' := [some (.ref (A 0)), some (.int (nI v)), some (.int (nI f))]) (st' := [.int (nI 8), .int (nI f)]) (by decide +kernel) rfl ?_
      refine V.icmpN_ge (i := f) (j := 8) hF (off := 37) (tgt := 75) (by decide +kernel) (by decide) (by omega) (by omega) (fun c1 => ?_) (fun c1 => ?_)
      · have e : f = 8 := by omega
        rw [hr2, e] at hC2
        refine V.run hF [(.iinc 1 1, 3, .int 1), (.goto (-51), 3, .null)] (pc' := 27) (L' := [some (.ref (A 0)), some (.int ((nI v) + 1)), some (.int (nI f))]) (st' := []) (by decide +kernel) rfl ?_
        rw [nI_1 v]
        have := ih hv8 h2 hC2 hk2
        exact V.loc (fun j v hv => by
          match j, hv with
          | 0, hv => exact hv
          | 1, hv => exact hv
          | 2, hv => cases hv
          | q + 3, hv => cases hv) this
      · skip
        refine V.run hF [(.aload_n 0, 1, .null)] (pc' := 42) (L' := [some (.ref (A 0)), some (.int (nI v)), some (.int (nI f))]) (st' := [.ref (A 0)]) (by decide +kernel) rfl ?_
        refine V.getf hG hF k_RX3_30 (by decide +kernel) gA rfl ?_
        refine V.run hF [(.iload_n 2, 1, .null)] (pc' := 46) (L' := [some (.ref (A 0)), some (.int (nI v)), some (.int (nI f))]) (st' := [.int (nI f), .ref (A 5)]) (by decide +kernel) rfl ?_
        refine V.ialdN (j := f) hG hF (by decide +kernel) g5 (by omega) (by decide) ?_
        refine V.run hF [(.iload_n 1, 1, .null)] (pc' := 48) (L' := [some (.ref (A 0)), some (.int (nI v)), some (.int (nI f))]) (st' := [.int (nI v), .int (r2 f)]) (by decide +kernel) rfl ?_
        refine V.callS (As := [.int (r2 f), .int (nI v)]) (st := []) hG hF k_RX3_169 (by decide +kernel) (c_X3_holds (r2 f) (nI v)) rfl ⟨by rw [hRm]; decide, by rw [hRm]; decide⟩ (Nat.le_of_ble_eq_true rfl) rfl (fun v h_1 gp1 => ?_) (fun E h9 hx => hx.elim)
        obtain ⟨rfl, he_gp1⟩ := gp1
        rw [he_gp1]
        show V G F _ _ _ 51 [some (.ref (A 0)), some (.int (nI v)), some (.int (nI f))] [.int (tf (hB (r2 f) v))] h2
        refine V.if_eq hF (off := 18) (tgt := 69) (by decide +kernel) (by decide) (fun c2 => ?_) (fun c2 => ?_)
        · have q : ¬ hB (r2 f) v := fun q => by
            rw [tf, if_pos q] at c2; cases c2
          rw [if_neg q] at hw
          refine V.run hF [(.iinc 2 1, 3, .int 1), (.goto (-37), 3, .null)] (pc' := 35) (L' := [some (.ref (A 0)), some (.int (nI v)), some (.int ((nI f) + 1))]) (st' := []) (by decide +kernel) rfl ?_
          rw [nI_1 f]
          exact ihf c1 hv8 h2 (by rw [hw]; exact hC2) hk2
        · skip
          have q : hB (r2 f) v := by
            by_cases q : hB (r2 f) v
            · exact q
            · rw [tf, if_neg q] at c2; exact absurd rfl c2
          rw [if_pos q] at hw
          refine V.run hF [(.aload_n 0, 1, .null)] (pc' := 55) (L' := [some (.ref (A 0)), some (.int (nI v)), some (.int (nI f))]) (st' := [.ref (A 0)]) (by decide +kernel) rfl ?_
          refine V.getf hG hF k_RX3_30 (by decide +kernel) gA rfl ?_
          refine V.run hF [(.iload_n 2, 1, .null), (.dup2, 1, .null)] (pc' := 60) (L' := [some (.ref (A 0)), some (.int (nI v)), some (.int (nI f))]) (st' := [.int (nI f), .ref (A 5), .int (nI f), .ref (A 5)]) (by decide +kernel) rfl ?_
          refine V.ialdN (j := f) hG hF (by decide +kernel) g5 (by omega) (by decide) ?_
          refine V.run hF [(.aload_n 0, 1, .null)] (pc' := 62) (L' := [some (.ref (A 0)), some (.int (nI v)), some (.int (nI f))]) (st' := [.ref (A 0), .int (r2 f), .int (nI f), .ref (A 5)]) (by decide +kernel) rfl ?_
          refine V.getf hG hF k_RX3_30 (by decide +kernel) gA rfl ?_
          refine V.run hF [(.iload_n 1, 1, .null)] (pc' := 66) (L' := [some (.ref (A 0)), some (.int (nI v)), some (.int (nI f))]) (st' := [.int (nI v), .ref (A 5), .int (r2 f), .int (nI f), .ref (A 5)]) (by decide +kernel) rfl ?_
          refine V.ialdN (j := v) hG hF (by decide +kernel) g5 (by omega) (by decide) ?_
          refine V.run hF [(.ior, 1, .null)] (pc' := 68) (L' := [some (.ref (A 0)), some (.int (nI v)), some (.int (nI f))]) (st' := [.int (r2 f ||| r2 v), .int (nI f), .ref (A 5)]) (by decide +kernel) rfl ?_
          refine V.iastN (j := f) hG hF (by decide +kernel) g5 (by omega) (by decide) ?_
          obtain ⟨h_2, gh2⟩ : ∃ z : Hp, z = hset h2 (A 5) (.inl (0, 8, .inl (upd r2 f (r2 f ||| r2 v)))) := ⟨_, rfl⟩
          refine V.hp gh2 ?_
          have gk2 : ∀ q : Nat, q ≠ (A 5) → h_2 q = h2 q := fun q hq => by rw [gh2]; exact hset_ne hq
          have gs2 : h_2 (A 5) = some (.inl (0, 8, .inl (upd r2 f (r2 f ||| r2 v)))) := by rw [gh2]; exact hset_eq
          have hC3 := hC2.re gs2 (fun q hq => gk2 q hq)
          have hk3 : ∀ q, q ≠ A 5 → h_2 q = h q := fun q hq => (gk2 q hq).trans (hk2 q hq)
          refine V.run hF [(.iinc 2 1, 3, .int 1), (.goto (-37), 3, .null)] (pc' := 35) (L' := [some (.ref (A 0)), some (.int (nI v)), some (.int ((nI f) + 1))]) (st' := []) (by decide +kernel) rfl ?_
          rw [nI_1 f]
          exact ihf c1 hv8 h_2 (by rw [hw]; exact hC3) hk3
    refine V.run hF [(.iload_n 1, 1, .null), (.bipush 8, 2, .int (nI 8))] (pc' := 30) (L' := [some (.ref (A 0)), some (.int (nI v)), none]) (st' := [.int (nI 8), .int (nI v)]) (by decide +kernel) rfl ?_
    refine V.icmpN_ge (i := v) (j := 8) hF (off := 51) (tgt := 81) (by decide +kernel) (by decide) (by omega) (by omega) (fun c1 => ?_) (fun c1 => ?_)
    · have e : v = 8 := by omega
      rw [e] at hC1
      exact V.retv hF (by decide +kernel) ⟨rfl, hC1, hk1⟩
    · skip
      refine V.run hF [(.iconst 0, 1, .int 0), (.istore_n 2, 1, .null)] (pc' := 35) (L' := [some (.ref (A 0)), some (.int (nI v)), some (.int 0)]) (st' := []) (by decide +kernel) rfl ?_
      exact loopC 0 (Nat.zero_le _) c1 h1 hC1 hk1
  have loopA : ∀ i, i ≤ 8 → ∀ (h1 : Hp), CS h1 A σ P (mxk i (R0 σ) r) → (∀ q, q ≠ A 5 → h1 q = h q) → V G F (fin G F (is_v fun h' => CS h' A σ P (whV 8 (R0 σ)) ∧ ∀ q, q ≠ A 5 → h' q = h q) pxN) 0 0 2 [some (.ref (A 0)), some (.int (nI i)), none] [] h1 := by
    refine lp_up 8 fun i hi ih => ?_
    intro h1 hC1 hk1
    obtain ⟨hI, hT8, gA, g1, g2, g3, g4, g5, g6⟩ := id hC1
    refine V.run hF [(.iload_n 1, 1, .null), (.bipush 8, 2, .int (nI 8))] (pc' := 5) (L' := [some (.ref (A 0)), some (.int (nI i)), none]) (st' := [.int (nI 8), .int (nI i)]) (by decide +kernel) rfl ?_
    refine V.icmpN_ge (i := i) (j := 8) hF (off := 20) (tgt := 25) (by decide +kernel) (by decide) (by omega) (by omega) (fun c1 => ?_) (fun c1 => ?_)
    · have e8 : ∀ j, j < 8 → mxk i (R0 σ) r j = R0 σ j := fun j hj => if_pos (by omega)
      refine V.extI g5 e8 ?_
      refine V.run hF [(.iconst 0, 1, .int 0), (.istore_n 1, 1, .null)] (pc' := 27) (L' := [some (.ref (A 0)), some (.int 0), none]) (st' := []) (by decide +kernel) rfl ?_
      have kk : ∀ q : Nat, q ≠ A 5 → hset h1 (A 5) (.inl (0, 8, .inl (R0 σ))) q = h1 q := fun q hq => hset_ne hq
      exact loopB 0 (Nat.zero_le _) _ (hC1.re hset_eq kk) (fun q hq => (kk q hq).trans (hk1 q hq))
    · skip
      refine V.run hF [(.aload_n 0, 1, .null)] (pc' := 9) (L' := [some (.ref (A 0)), some (.int (nI i)), none]) (st' := [.ref (A 0)]) (by decide +kernel) rfl ?_
      refine V.getf hG hF k_RX3_30 (by decide +kernel) gA rfl ?_
      refine V.run hF [(.iload_n 1, 1, .null), (.aload_n 0, 1, .null), (.iload_n 1, 1, .null)] (pc' := 15) (L' := [some (.ref (A 0)), some (.int (nI i)), none]) (st' := [.int (nI i), .ref (A 0), .int (nI i), .ref (A 5)]) (by decide +kernel) rfl ?_
      refine V.callV (As := [.int (nI i)]) (st := [.int (nI i), .ref (A 5)]) hG hF k_RX3_244 (by decide +kernel) (c_X3_creditorBits hG hC1 (nI i)) gA rfl rfl ⟨by rw [hRm]; decide, by rw [hRm]; decide⟩ (Nat.le_of_ble_eq_true rfl) rfl (fun v h_1 gp1 => ?_) (fun E h9 hx => hx.elim)
      obtain ⟨rfl, he_gp1⟩ := gp1
      rw [he_gp1]
      show V G F _ _ _ 18 [some (.ref (A 0)), some (.int (nI i)), none] [.int (cbT σ (nI i) (gT σ)), .int (nI i), .ref (A 5)] h1
      refine V.iastN (j := i) hG hF (by decide +kernel) g5 (by omega) (by decide) ?_
      obtain ⟨h_2, gh2⟩ : ∃ z : Hp, z = hset h1 (A 5) (.inl (0, 8, .inl (upd (mxk i (R0 σ) r) i (cbT σ (nI i) (gT σ))))) := ⟨_, rfl⟩
      refine V.hp gh2 ?_
      have gk2 : ∀ q : Nat, q ≠ (A 5) → h_2 q = h1 q := fun q hq => by rw [gh2]; exact hset_ne hq
      have gs2 : h_2 (A 5) = some (.inl (0, 8, .inl (upd (mxk i (R0 σ) r) i (cbT σ (nI i) (gT σ))))) := by rw [gh2]; exact hset_eq
      have hC3 := hC1.re gs2 (fun q hq => gk2 q hq)
      have hk3 : ∀ q, q ≠ A 5 → h_2 q = h q := fun q hq => (gk2 q hq).trans (hk1 q hq)
      refine V.run hF [(.iinc 1 1, 3, .int 1), (.goto (-20), 3, .null)] (pc' := 2) (L' := [some (.ref (A 0)), some (.int ((nI i) + 1)), none]) (st' := []) (by decide +kernel) rfl ?_
      rw [nI_1 i]
      exact ih c1 h_2 (by rw [← mxk_s]; exact hC3) hk3
  refine V.run hF [(.iconst 0, 1, .int 0), (.istore_n 1, 1, .null)] (pc' := 2) (L' := [some (.ref (A 0)), some (.int 0), none]) (st' := []) (by decide +kernel) rfl ?_
  exact loopA 0 (Nat.zero_le _) h (by rw [mxk_0]; exact hC) (fun _ _ => rfl)
/-- the answer x, the state as it was, but the row 'reached' -/
def is_r (A : Nat → Nat) (σ : Sg) (P : PS) (h : Hp) (x : Int32) : Option Value → Hp → Prop := fun v h' => v = some (.int x) ∧ ∃ r', CS h' A σ P r' ∧ kpC h h' A (12 + 6 * gT σ)
abbrev gOA (σ : Sg) (p : Int32) : Int32 := bcf (whV 8 (R0 σ) p.toNatClampNeg &&& (1 <<< (p &&& 31) ^^^ -1))
set_option maxHeartbeats 4000000 in
theorem c_X3_owesAlong (hG : GOk G) (hC : CS h A σ P r) (p : Int32) : Ct G yX3_owesAlong (.code yX3_owesAlong cX3_owesAlong 2 (some .int)) 7 102 1 6 [.ref (A 0), .int p] h (fun v h' => inP p ∧ is_r A σ P h (gOA σ p) v h') (fun E h' => E = eI ∧ ¬ inP p ∧ h' = h) := by
  refine Ct.of (by decide +kernel) (Nat.le_of_ble_eq_true rfl) fun F hF hT hN hRm => ?_
  refine V.run hF [(.iload_n 1, 1, .null)] (pc' := 1) (L' := [some (.ref (A 0)), some (.int p)]) (st' := [.int p]) (by decide +kernel) rfl ?_
  refine V.callS (As := [.int p]) (st := []) hG hF k_RX3_60 (by decide +kernel) (c_X3_checkPerson hG p) rfl ⟨by rw [hRm]; decide, by rw [hRm]; decide⟩ (Nat.le_of_ble_eq_true rfl) rfl (fun v h1' hp => ?_) (fun E h9 hx => VX.out hF hT ⟨hx.1, hx.2.1, hx.2.2⟩)
  obtain ⟨rfl, hx, he⟩ := hp
  rw [he]
  show V G F _ _ _ 4 [some (.ref (A 0)), some (.int p)] [] h
  refine V.less (Nat.zero_le _) (Nat.zero_le _) (?_ : V G F _ 0 0 4 [some (.ref (A 0)), some (.int p)] [] h)
  have hin : vp_in p 8 := by
    obtain ⟨q, hq, eq⟩ := inP_of hx
    rw [eq]
    exact vp_in_nI hq (by decide)
  refine V.run hF [(.aload_n 0, 1, .null)] (pc' := 5) (L' := [some (.ref (A 0)), some (.int p)]) (st' := [.ref (A 0)]) (by decide +kernel) rfl ?_
  refine V.callV (As := []) (st := []) hG hF k_RX3_161 (by decide +kernel) (c_X3_followLines hG hC) hC.2.2.1 rfl rfl ⟨by rw [hRm]; decide, by rw [hRm]; decide⟩ (Nat.le_of_ble_eq_true rfl) rfl (fun v h2 hp => ?_) (fun E h9 hx => hx.elim)
  obtain ⟨rfl, hC2, hk2⟩ := hp
  show V G F _ _ _ 8 [some (.ref (A 0)), some (.int p)] [] h2
  refine V.run hF [(.aload_n 0, 1, .null)] (pc' := 9) (L' := [some (.ref (A 0)), some (.int p)]) (st' := [.ref (A 0)]) (by decide +kernel) rfl ?_
  refine V.getf hG hF k_RX3_30 (by decide +kernel) hC2.2.2.1 rfl ?_
  refine V.run hF [(.iload_n 1, 1, .null)] (pc' := 13) (L' := [some (.ref (A 0)), some (.int p)]) (st' := [.int p, .ref (A 5)]) (by decide +kernel) rfl ?_
  refine V.iald hG hF (by decide +kernel) hC2.2.2.2.2.2.2.2.1 (by assumption) ?_
  refine V.run hF [(.iconst 1, 1, .int 1), (.iload_n 1, 1, .null), (.ishl, 1, .null), (.iconst (-1), 1, .int (-1)), (.ixor, 1, .null), (.iand, 1, .null)] (pc' := 20) (L' := [some (.ref (A 0)), some (.int p)]) (st' := [.int ((whV 8 (R0 σ)) (Int32.toNatClampNeg p) &&& ((1 <<< (p &&& 31)) ^^^ (-1)))]) (by decide +kernel) rfl ?_
  refine V.callS (As := [.int ((whV 8 (R0 σ)) (Int32.toNatClampNeg p) &&& ((1 <<< (p &&& 31)) ^^^ (-1)))]) (st := []) hG hF k_RX3_164 (by decide +kernel) (c_J_bitCount hG _) rfl ⟨by rw [hRm]; decide, by rw [hRm]; decide⟩ (Nat.le_of_ble_eq_true rfl) rfl (fun v h_3 gp3 => ?_) (fun E h9 hx => hx.elim)
  obtain ⟨rfl, he_gp3⟩ := gp3
  rw [he_gp3]
  show V G F _ _ _ 23 [some (.ref (A 0)), some (.int p)] [.int (gOA σ p)] h2
  exact V.reti hF (by decide +kernel) ⟨hx, rfl, _, hC2, kpC.one (by omega) hk2⟩
/-- somebody gets back to itself -/
def rnd (w : Nat → Int32) : Nat → Nat → Int32
  | 0, _ => 0
  | f + 1, i => if hB (w i) i then 1 else rnd w f (i + 1)
set_option maxHeartbeats 4000000 in
theorem c_X3_isRound (hG : GOk G) (hC : CS h A σ P r) : Ct G yX3_isRound (.code yX3_isRound cX3_isRound 2 (some .boolean)) 3 71 0 0 [.ref (A 0)] h (is_r A σ P h (rnd (whV 8 (R0 σ)) 8 0)) pxN := by
  refine Ct.of (by decide +kernel) (Nat.le_of_ble_eq_true rfl) fun F hF hT hN hRm => ?_
  refine V.run hF [(.aload_n 0, 1, .null)] (pc' := 1) (L' := [some (.ref (A 0)), none]) (st' := [.ref (A 0)]) (by decide +kernel) rfl ?_
  refine V.callV (As := []) (st := []) hG hF k_RX3_161 (by decide +kernel) (c_X3_followLines hG hC) hC.2.2.1 rfl rfl ⟨by rw [hRm]; decide, by rw [hRm]; decide⟩ (Nat.le_of_ble_eq_true rfl) rfl (fun v h2 hp => ?_) (fun E h9 hx => hx.elim)
  obtain ⟨rfl, hC2, hk2⟩ := hp
  obtain ⟨w, hw⟩ : ∃ w, w = whV 8 (R0 σ) := ⟨_, rfl⟩
  rw [← hw]
  rw [← hw] at hC2
  have loop : ∀ i, i ≤ 8 → V G F (fin G F (is_r A σ P h (rnd w (8 - i) i)) pxN) 0 0 6 [some (.ref (A 0)), some (.int (nI i))] [] h2 := by
    refine lp_up 8 fun i hi ih => ?_
    refine V.run hF [(.iload_n 1, 1, .null), (.bipush 8, 2, .int (nI 8))] (pc' := 9) (L' := [some (.ref (A 0)), some (.int (nI i))]) (st' := [.int (nI 8), .int (nI i)]) (by decide +kernel) rfl ?_
    refine V.icmpN_ge (i := i) (j := 8) hF (off := 24) (tgt := 33) (by decide +kernel) (by decide) (by omega) (by omega) (fun c1 => ?_) (fun c1 => ?_)
    · have e : 8 - i = 0 := by omega
      refine V.run hF [(.iconst 0, 1, .int 0)] (pc' := 34) (L' := [some (.ref (A 0)), some (.int (nI i))]) (st' := [.int 0]) (by decide +kernel) rfl ?_
      exact V.retz hF (by decide +kernel) rfl ⟨by rw [e]; rfl, _, hC2, kpC.one (by omega) hk2⟩
    · skip
      have e8 : 8 - i = (8 - (i + 1)) + 1 := by omega
      refine V.run hF [(.aload_n 0, 1, .null)] (pc' := 13) (L' := [some (.ref (A 0)), some (.int (nI i))]) (st' := [.ref (A 0)]) (by decide +kernel) rfl ?_
      refine V.getf hG hF k_RX3_30 (by decide +kernel) hC2.2.2.1 rfl ?_
      refine V.run hF [(.iload_n 1, 1, .null)] (pc' := 17) (L' := [some (.ref (A 0)), some (.int (nI i))]) (st' := [.int (nI i), .ref (A 5)]) (by decide +kernel) rfl ?_
      refine V.ialdN (j := i) hG hF (by decide +kernel) hC2.2.2.2.2.2.2.2.1 (by omega) (by decide) ?_
      refine V.run hF [(.iload_n 1, 1, .null)] (pc' := 19) (L' := [some (.ref (A 0)), some (.int (nI i))]) (st' := [.int (nI i), .int (w i)]) (by decide +kernel) rfl ?_
      refine V.callS (As := [.int (w i), .int (nI i)]) (st := []) hG hF k_RX3_169 (by decide +kernel) (c_X3_holds (w i) (nI i)) rfl ⟨by rw [hRm]; decide, by rw [hRm]; decide⟩ (Nat.le_of_ble_eq_true rfl) rfl (fun v h_2 gp2 => ?_) (fun E h9 hx => hx.elim)
      obtain ⟨rfl, he_gp2⟩ := gp2
      rw [he_gp2]
      show V G F _ _ _ 22 [some (.ref (A 0)), some (.int (nI i))] [.int (tf (hB (w i) i))] h2
      refine V.if_eq hF (off := 5) (tgt := 27) (by decide +kernel) (by decide) (fun c2 => ?_) (fun c2 => ?_)
      · have q : ¬ hB (w i) i := fun q => by
          rw [tf, if_pos q] at c2; cases c2
        refine V.run hF [(.iinc 1 1, 3, .int 1), (.goto (-24), 3, .null)] (pc' := 6) (L' := [some (.ref (A 0)), some (.int ((nI i) + 1))]) (st' := []) (by decide +kernel) rfl ?_
        rw [nI_1 i]
        rw [e8, rnd, if_neg q]
        exact ih c1
      · skip
        have q : hB (w i) i := by
          by_cases q : hB (w i) i
          · exact q
          · rw [tf, if_neg q] at c2; exact absurd rfl c2
        refine V.run hF [(.iconst 1, 1, .int 1)] (pc' := 26) (L' := [some (.ref (A 0)), some (.int (nI i))]) (st' := [.int 1]) (by decide +kernel) rfl ?_
        exact V.retz hF (by decide +kernel) rfl ⟨by rw [e8, rnd, if_pos q], _, hC2, kpC.one (by omega) hk2⟩
  show V G F _ _ _ 4 [some (.ref (A 0)), none] [] h2
  refine V.run hF [(.iconst 0, 1, .int 0), (.istore_n 1, 1, .null)] (pc' := 6) (L' := [some (.ref (A 0)), some (.int 0)]) (st' := []) (by decide +kernel) rfl ?_
  exact loop 0 (Nat.zero_le _)
end Re
end
section
/-! ===== TallyWax: years go by ===== -/
abbrev mlt (σ : Sg) (t : Nat) : Prop := gce σ t = 0 ∧ gha σ t < heatAt σ 0
def sMelt (σ : Sg) (i : Nat) : Sg := (gth σ, gT σ, gha σ, gce σ, fun t => if t < i ∧ mlt σ t then 0 else gn σ t, (gDD σ, gC σ, gM σ, gW σ), ghe σ, gy σ, gme σ, gde σ)
abbrev gon (σ : Sg) : Nat → Int32 := sumT (fun t => if mlt σ t then nI (gn σ t) else 0)
def yrS (σ : Sg) : Sg := sYmd (sMelt σ (gT σ)) (gy σ + 1) (gme σ) (gde σ)
def yrN : Nat → Sg → Sg
  | 0, σ => σ
  | k + 1, σ => yrS (yrN k σ)
def goN : Nat → Sg → Int32
  | 0, _ => 0
  | k + 1, σ => goN k σ + gon (yrN k σ) (gT σ)
theorem yrN_T : ∀ (k : Nat) (σ : Sg), gT (yrN k σ) = gT σ
  | 0, _ => rfl
  | k + 1, σ => (show gT (yrN (k + 1) σ) = gT (yrN k σ) from rfl).trans (yrN_T k σ)
theorem yrN_y : ∀ (k : Nat) (σ : Sg), gy (yrN k σ) = gy σ + k
  | 0, _ => rfl
  | k + 1, σ => (show gy (yrN (k + 1) σ) = gy (yrN k σ) + 1 from rfl).trans (by rw [yrN_y k σ]; omega)
theorem yrN_me : ∀ (k : Nat) (σ : Sg), gme (yrN k σ) = gme σ
  | 0, _ => rfl
  | k + 1, σ => (show gme (yrN (k + 1) σ) = gme (yrN k σ) from rfl).trans (yrN_me k σ)
theorem yrN_de : ∀ (k : Nat) (σ : Sg), gde (yrN k σ) = gde σ
  | 0, _ => rfl
  | k + 1, σ => (show gde (yrN (k + 1) σ) = gde (yrN k σ) from rfl).trans (yrN_de k σ)
theorem sMelt_0 {σ : Sg} : sMelt σ 0 = σ := by
  unfold sMelt
  have : (fun t => if t < 0 ∧ mlt σ t then 0 else gn σ t) = gn σ := by
    funext t
    rw [if_neg (fun q => Nat.not_lt_zero _ q.1)]
  rw [this]
theorem sMelt_n {σ : Sg} {i : Nat} (h : ¬ mlt σ i) : sMelt σ (i + 1) = sMelt σ i := by
  unfold sMelt
  have : (fun t => if t < i + 1 ∧ mlt σ t then 0 else gn σ t) = fun t => if t < i ∧ mlt σ t then 0 else gn σ t := by
    funext t
    by_cases e : t = i
    · subst e
      rw [if_neg (fun q => h q.2), if_neg (fun q => h q.2)]
    · by_cases q : t < i ∧ mlt σ t
      · rw [if_pos q, if_pos ⟨by omega, q.2⟩]
      · rw [if_neg q, if_neg (fun z => q ⟨by omega, z.2⟩)]
  rw [this]
theorem sMelt_y {σ : Sg} {i : Nat} (h : mlt σ i) : sTab (sMelt σ i) i (gha σ i) (gce σ i) 0 (gDD σ i) (gC σ i) (gM σ i) (gW σ i) = sMelt σ (i + 1) := by
  unfold sTab sMelt
  simp only [gth, gT, gha, gce, gn, gDD, gC, gM, gW, ghe, gy, gme, gde, vu_i]
  have : va_up (fun t => if t < i ∧ mlt σ t then 0 else σ.2.2.2.2.1 t) i 0 = fun t => if t < i + 1 ∧ mlt σ t then 0 else σ.2.2.2.2.1 t := by
    funext t
    by_cases e : t = i
    · subst e
      rw [vu_s, if_pos ⟨by omega, h⟩]
    · rw [vu_n e]
      by_cases q : t < i ∧ mlt σ t
      · rw [if_pos q, if_pos ⟨by omega, q.2⟩]
      · rw [if_neg q, if_neg (fun z => q ⟨by omega, z.2⟩)]
  rw [this]
section Ye
variable {G : Gt} {h : Hp} {A : Nat → Nat} {σ : Sg} {P : PS} {r : Nat → Int32}
set_option maxHeartbeats 4000000 in
theorem c_X3_passOneYear (hG : GOk G) (hC : CS h A σ P r) (hy : gy σ < 2 ^ 30) : Ct G yX3_passOneYear (.code yX3_passOneYear cX3_passOneYear 7 (some .int)) 2 43 0 0 [.ref (A 0)] h (fun v h' => v = some (.int (gon σ (gT σ))) ∧ CS h' A (yrS σ) P r ∧ kpC h h' A (12 + 6 * gT σ)) pxN := by
  refine Ct.of (by decide +kernel) (Nat.le_of_ble_eq_true rfl) fun F hF hT hN hRm => ?_
  have hT8 := hC.2.1
  obtain ⟨ht, hht⟩ : ∃ x : Int32, x = heatAt σ 0 := ⟨_, rfl⟩
  have loop : ∀ i, i ≤ 8 → ∀ h1 : Hp, CS h1 A (sMelt σ (min i (gT σ))) P r → kpC h h1 A (12 + 6 * gT σ) → V G F (fin G F (fun v h' => v = some (.int (gon σ (gT σ))) ∧ CS h' A (yrS σ) P r ∧ kpC h h' A (12 + 6 * gT σ)) pxN) 0 0 20 [some (.ref (A 0)), some (.int ht), some (.int (gon σ (min i (gT σ)))), some (.ref (A 2)), some (.int (nI 8)), some (.int (nI i)), none] [] h1 := by
    refine lp_up 8 fun i hi ih => ?_
    intro h1 hC1 hk1
    obtain ⟨hI, _, gA, g1, g2, g3, g4, g5, g6⟩ := id hC1
    have dr : ∀ {x : Int32} {u : Option Value} {h2 : Hp} {j : Int32}, V G F (fin G F (fun v h' => v = some (.int (gon σ (gT σ))) ∧ CS h' A (yrS σ) P r ∧ kpC h h' A (12 + 6 * gT σ)) pxN) 0 0 20 [some (.ref (A 0)), some (.int ht), some (.int x), some (.ref (A 2)), some (.int (nI 8)), some (.int j), none] [] h2 → V G F (fin G F (fun v h' => v = some (.int (gon σ (gT σ))) ∧ CS h' A (yrS σ) P r ∧ kpC h h' A (12 + 6 * gT σ)) pxN) 0 0 20 [some (.ref (A 0)), some (.int ht), some (.int x), some (.ref (A 2)), some (.int (nI 8)), some (.int j), u] [] h2 := fun k => V.loc (fun j v hv => by
      match j, hv with
      | 0, hv => exact hv
      | 1, hv => exact hv
      | 2, hv => exact hv
      | 3, hv => exact hv
      | 4, hv => exact hv
      | 5, hv => exact hv
      | 6, hv => cases hv
      | q + 7, hv => cases hv) k
    refine V.run hF [(.iload 5, 2, .null), (.iload 4, 2, .null)] (pc' := 24) (L' := [some (.ref (A 0)), some (.int ht), some (.int (gon σ (min i (gT σ)))), some (.ref (A 2)), some (.int (nI 8)), some (.int (nI i)), none]) (st' := [.int (nI 8), .int (nI i)]) (by decide +kernel) rfl ?_
    refine V.icmpN_ge (i := i) (j := 8) hF (off := 49) (tgt := 73) (by decide +kernel) (by decide) (by omega) (by omega) (fun c1 => ?_) (fun c1 => ?_)
    · have e : min i (gT σ) = gT σ := by omega
      rw [e] at hC1 ⊢
      refine V.run hF [(.aload_n 0, 1, .null), (.dup, 1, .null)] (pc' := 75) (L' := [some (.ref (A 0)), some (.int ht), some (.int (gon σ (gT σ))), some (.ref (A 2)), some (.int (nI 8)), some (.int (nI i)), none]) (st' := [.ref (A 0), .ref (A 0)]) (by decide +kernel) rfl ?_
      refine V.getf hG hF k_RX3_143 (by decide +kernel) gA rfl ?_
      refine V.run hF [(.iconst 1, 1, .int 1), (.iadd, 1, .null)] (pc' := 80) (L' := [some (.ref (A 0)), some (.int ht), some (.int (gon σ (gT σ))), some (.ref (A 2)), some (.int (nI 8)), some (.int (nI i)), none]) (st' := [.int (nI (gy σ) + 1), .ref (A 0)]) (by decide +kernel) rfl ?_
      rw [nI_1 (gy σ)]
      refine V.putf hG hF k_RX3_143 (by decide +kernel) gA (fun C T N hc => by cases hc; exact ⟨rfl, .int, by decide +kernel, rfl, rfl⟩) (Nat.le_of_ble_eq_true rfl) ?_
      obtain ⟨h_1, gh1⟩ : ∃ z : Hp, z = hset h1 (A 0) (.inr (3, [.ref (A 1), .ref (A 2), .ref (A 3), .ref (A 4), .ref (A 5), .int (nI (gT σ)), .int (nI (gy σ + 1)), .int (gme σ), .int (gde σ)])) := ⟨_, rfl⟩
      refine V.hp gh1 ?_
      have gk1 : ∀ q : Nat, q ≠ (A 0) → h_1 q = h1 q := fun q hq => by rw [gh1]; exact hset_ne hq
      have gs1 : h_1 (A 0) = some (.inr (3, [.ref (A 1), .ref (A 2), .ref (A 3), .ref (A 4), .ref (A 5), .int (nI (gT σ)), .int (nI (gy σ + 1)), .int (gme σ), .int (gde σ)])) := by rw [gh1]; exact hset_eq
      refine V.run hF [(.iload_n 2, 1, .null)] (pc' := 84) (L' := [some (.ref (A 0)), some (.int ht), some (.int (gon σ (gT σ))), some (.ref (A 2)), some (.int (nI 8)), some (.int (nI i)), none]) (st' := [.int (gon σ (gT σ))]) (by decide +kernel) rfl ?_
      have hC2 := hC1.ymd (y := gy σ + 1) (me := gme σ) (de := gde σ) gs1 (fun q hq => gk1 q hq)
      exact V.reti hF (by decide +kernel) ⟨rfl, hC2, hk1.tr (kpC.one (by omega) (fun q hq => gk1 q hq))⟩
    · skip
      refine V.run hF [(.aload_n 3, 1, .null), (.iload 5, 2, .null)] (pc' := 30) (L' := [some (.ref (A 0)), some (.int ht), some (.int (gon σ (min i (gT σ)))), some (.ref (A 2)), some (.int (nI 8)), some (.int (nI i)), none]) (st' := [.int (nI i), .ref (A 2)]) (by decide +kernel) rfl ?_
      by_cases ht' : i < gT σ
      · skip
        obtain ⟨e1, e2⟩ := min_s ht'
        rw [e2] at hC1
        obtain ⟨t1, t2, t3⟩ := hC1.2.2.2.2.2.2.2.2 i ht'
        have t1 : h1 (A (12 + 6 * i)) = some (.inr (2, [.int (gha σ i), .int (gce σ i), .ref (A (13 + 6 * i))])) := t1
        have en : gn (sMelt σ i) i = gn σ i := if_neg (fun q => Nat.lt_irrefl _ q.1)
        rw [en] at t2
        have t2 : LLc h1 (A (13 + 6 * i)) (A (14 + 6 * i)) (A (15 + 6 * i)) (A (16 + 6 * i)) (A (17 + 6 * i)) (gDD σ i) (gC σ i) (gM σ i) (gW σ i) (gn σ i) := t2
        refine V.aaldS (j := i) (b := (A (12 + 6 * i))) hG hF (by decide +kernel) g2 (by omega) (by decide) (shf_in ht') ?_
        refine V.run hF [(.astore 6, 2, .null), (.aload 6, 2, .null)] (pc' := 35) (L' := [some (.ref (A 0)), some (.int ht), some (.int (gon σ (min i (gT σ)))), some (.ref (A 2)), some (.int (nI 8)), some (.int (nI i)), some (.ref (A (12 + 6 * i)))]) (st' := [.ref (A (12 + 6 * i))]) (by decide +kernel) rfl ?_
        refine V.ifnull1 hF (off := 32) (by decide +kernel) ?_
        refine V.run hF [(.aload 6, 2, .null), (.iload_n 1, 1, .null)] (pc' := 41) (L' := [some (.ref (A 0)), some (.int ht), some (.int (gon σ (min i (gT σ)))), some (.ref (A 2)), some (.int (nI 8)), some (.int (nI i)), some (.ref (A (12 + 6 * i)))]) (st' := [.int ht, .ref (A (12 + 6 * i))]) (by decide +kernel) rfl ?_
        refine V.callVN (As := [.int ht]) (st := []) hG hF k_RX3_236 (by decide +kernel) (c_X2_meltsAt hG t1) t1 rfl rfl ⟨by rw [hRm]; decide, by rw [hRm]; decide⟩ (Nat.le_of_ble_eq_true rfl) rfl (fun v h_2 gp2 => ?_)
        obtain ⟨rfl, he_gp2⟩ := gp2
        rw [he_gp2]
        show V G F _ _ _ 44 [some (.ref (A 0)), some (.int ht), some (.int (gon σ (min i (gT σ)))), some (.ref (A 2)), some (.int (nI 8)), some (.int (nI i)), some (.ref (A (12 + 6 * i)))] [.int (tf (gce σ i = 0 ∧ gha σ i < ht))] h1
        have es : gon σ (i + 1) = gon σ i + (if mlt σ i then nI (gn σ i) else 0) := rfl
        refine V.if_eq hF (off := 23) (tgt := 67) (by decide +kernel) (by decide) (fun c2 => ?_) (fun c2 => ?_)
        · have q : ¬ mlt σ i := fun q => by
            rw [tf, if_pos (by rw [hht]; exact q)] at c2; cases c2
          refine V.run hF [(.iinc 5 1, 3, .int 1), (.goto (-50), 3, .null)] (pc' := 20) (L' := [some (.ref (A 0)), some (.int ht), some (.int (gon σ (min i (gT σ)))), some (.ref (A 2)), some (.int (nI 8)), some (.int ((nI i) + 1)), some (.ref (A (12 + 6 * i)))]) (st' := []) (by decide +kernel) rfl ?_
          rw [nI_1 i]
          rw [if_neg q, Int32.add_zero] at es
          have := ih c1 h1 (by rw [e1, e2, sMelt_n q]; exact hC1) hk1
          rw [e1, e2, es] at this
          rw [e2]
          exact dr this
        · skip
          have q : mlt σ i := by
            by_cases q : gce σ i = 0 ∧ gha σ i < ht
            · rw [hht] at q; exact q
            · rw [tf, if_neg q] at c2; exact absurd rfl c2
          refine V.run hF [(.iload_n 2, 1, .null), (.aload 6, 2, .null)] (pc' := 50) (L' := [some (.ref (A 0)), some (.int ht), some (.int (gon σ (min i (gT σ)))), some (.ref (A 2)), some (.int (nI 8)), some (.int (nI i)), some (.ref (A (12 + 6 * i)))]) (st' := [.ref (A (12 + 6 * i)), .int (gon σ (min i (gT σ)))]) (by decide +kernel) rfl ?_
          refine V.getf hG hF k_RX3_56 (by decide +kernel) t1 rfl ?_
          refine V.getf hG hF k_RX3_67 (by decide +kernel) t2.1 rfl ?_
          refine V.run hF [(.iadd, 1, .null), (.istore_n 2, 1, .null), (.aload 6, 2, .null)] (pc' := 60) (L' := [some (.ref (A 0)), some (.int ht), some (.int (gon σ (min i (gT σ)) + nI (gn σ i))), some (.ref (A 2)), some (.int (nI 8)), some (.int (nI i)), some (.ref (A (12 + 6 * i)))]) (st' := [.ref (A (12 + 6 * i))]) (by decide +kernel) rfl ?_
          refine V.getf hG hF k_RX3_56 (by decide +kernel) t1 rfl ?_
          refine V.run hF [(.iconst 0, 1, .int (nI 0))] (pc' := 64) (L' := [some (.ref (A 0)), some (.int ht), some (.int (gon σ (min i (gT σ)) + nI (gn σ i))), some (.ref (A 2)), some (.int (nI 8)), some (.int (nI i)), some (.ref (A (12 + 6 * i)))]) (st' := [.int (nI 0), .ref (A (13 + 6 * i))]) (by decide +kernel) rfl ?_
          refine V.putf hG hF k_RX3_67 (by decide +kernel) t2.1 (fun C T N hc => by cases hc; exact ⟨rfl, .int, by decide +kernel, rfl, rfl⟩) (Nat.le_of_ble_eq_true rfl) ?_
          obtain ⟨h_3, gh3⟩ : ∃ z : Hp, z = hset h1 (A (13 + 6 * i)) (.inr (0, [.ref (A (14 + 6 * i)), .ref (A (15 + 6 * i)), .ref (A (16 + 6 * i)), .ref (A (17 + 6 * i)), .int (nI 0)])) := ⟨_, rfl⟩
          refine V.hp gh3 ?_
          have gk3 : ∀ q : Nat, q ≠ (A (13 + 6 * i)) → h_3 q = h1 q := fun q hq => by rw [gh3]; exact hset_ne hq
          have gs3 : h_3 (A (13 + 6 * i)) = some (.inr (0, [.ref (A (14 + 6 * i)), .ref (A (15 + 6 * i)), .ref (A (16 + 6 * i)), .ref (A (17 + 6 * i)), .int (nI 0)])) := by rw [gh3]; exact hset_eq
          rw [if_pos q] at es
          have k13 : ∀ j, j < 12 + 6 * gT σ → j ≠ 13 + 6 * i → h_3 (A j) = h1 (A j) := fun j hj hn => gk3 _ (hC.1.ne hj (by omega) hn)
          have hC2 := hC1.tab (h' := h_3) ht' (ha := gha σ i) (ce := gce σ i) (n := 0) (D := gDD σ i) (C := gC σ i) (M := gM σ i) (W := gW σ i) ((k13 _ (by omega) (by omega)).trans t1) ⟨gs3, (k13 _ (by omega) (by omega)).trans t2.2.1, (k13 _ (by omega) (by omega)).trans t2.2.2.1, (k13 _ (by omega) (by omega)).trans t2.2.2.2.1, (k13 _ (by omega) (by omega)).trans t2.2.2.2.2⟩ (Nat.zero_le _) (fun q hq => gk3 q (hq _ (by omega) (by omega)))
          rw [sMelt_y q] at hC2
          have hk2 : kpC h h_3 A (12 + 6 * gT σ) := hk1.tr (kpC.one (i := 13 + 6 * i) (by omega) (fun q hq => gk3 q hq))
          refine V.run hF [(.iinc 5 1, 3, .int 1), (.goto (-50), 3, .null)] (pc' := 20) (L' := [some (.ref (A 0)), some (.int ht), some (.int (gon σ (min i (gT σ)) + nI (gn σ i))), some (.ref (A 2)), some (.int (nI 8)), some (.int ((nI i) + 1)), some (.ref (A (12 + 6 * i)))]) (st' := []) (by decide +kernel) rfl ?_
          rw [nI_1 i]
          have := ih c1 h_3 (by rw [e1, e2]; exact hC2) hk2
          rw [e1, e2, es] at this
          rw [e2]
          exact dr this
      · skip
        refine V.aaldZ (j := i) hG hF (by decide +kernel) g2 (by omega) (by decide) (shf_out ht') ?_
        refine V.run hF [(.astore 6, 2, .null), (.aload 6, 2, .null)] (pc' := 35) (L' := [some (.ref (A 0)), some (.int ht), some (.int (gon σ (min i (gT σ)))), some (.ref (A 2)), some (.int (nI 8)), some (.int (nI i)), some (.null)]) (st' := [.null]) (by decide +kernel) rfl ?_
        refine V.ifnull0 hF (off := 32) (tgt := 67) (by decide +kernel) (by decide) ?_
        refine V.run hF [(.iinc 5 1, 3, .int 1), (.goto (-50), 3, .null)] (pc' := 20) (L' := [some (.ref (A 0)), some (.int ht), some (.int (gon σ (min i (gT σ)))), some (.ref (A 2)), some (.int (nI 8)), some (.int ((nI i) + 1)), some (.null)]) (st' := []) (by decide +kernel) rfl ?_
        rw [nI_1 i]
        have := ih c1 h1 (by rw [min_e ht']; exact hC1) hk1
        rw [min_e ht'] at this
        exact dr this
  refine V.run hF [(.aload_n 0, 1, .null), (.iconst 0, 1, .int 0)] (pc' := 2) (L' := [some (.ref (A 0)), none, none, none, none, none, none]) (st' := [.int 0, .ref (A 0)]) (by decide +kernel) rfl ?_
  refine V.callV (As := [.int (nI 0)]) (st := []) hG hF k_RX3_233 (by decide +kernel) (c_X3_heatAfter hG hC (k := 0) (by omega)) hC.2.2.1 rfl rfl ⟨by rw [hRm]; decide, by rw [hRm]; decide⟩ (Nat.le_of_ble_eq_true rfl) rfl (fun v h_1 gp1 => ?_) (fun E h9 hx => hx.elim)
  obtain ⟨rfl, he_gp1⟩ := gp1
  rw [he_gp1]
  show V G F _ _ _ 5 [some (.ref (A 0)), none, none, none, none, none, none] [.int (heatAt σ 0)] h
  rw [← hht]
  refine V.run hF [(.istore_n 1, 1, .null), (.iconst 0, 1, .int 0), (.istore_n 2, 1, .null), (.aload_n 0, 1, .null)] (pc' := 9) (L' := [some (.ref (A 0)), some (.int ht), some (.int 0), none, none, none, none]) (st' := [.ref (A 0)]) (by decide +kernel) rfl ?_
  refine V.getf hG hF k_RX3_15 (by decide +kernel) hC.2.2.1 rfl ?_
  refine V.run hF [(.astore_n 3, 1, .null), (.aload_n 3, 1, .null)] (pc' := 14) (L' := [some (.ref (A 0)), some (.int ht), some (.int 0), some (.ref (A 2)), none, none, none]) (st' := [.ref (A 2)]) (by decide +kernel) rfl ?_
  refine V.alen hG hF (by decide +kernel) (by decide) hC.2.2.2.2.1 ?_
  show V G F _ _ _ 15 [some (.ref (A 0)), some (.int ht), some (.int 0), some (.ref (A 2)), none, none, none] [.int (nI 8)] h
  refine V.run hF [(.istore 4, 2, .null), (.iconst 0, 1, .int 0), (.istore 5, 2, .null)] (pc' := 20) (L' := [some (.ref (A 0)), some (.int ht), some (.int 0), some (.ref (A 2)), some (.int (nI 8)), some (.int 0), none]) (st' := []) (by decide +kernel) rfl ?_
  exact loop 0 (Nat.zero_le _) h (by rw [Nat.zero_min, sMelt_0]; exact hC) kpC.rf
end Ye
end
section
/-! ===== TallyWax: public operations, first part ===== -/
abbrev b01 (x : Int32) : Prop := x = 0 ∨ x = 1
theorem nz {x : Int32} (h : b01 x) : narrow .boolean (.int x) = .int x := by
  rcases h with rfl | rfl
  · decide +kernel
  · decide +kernel
theorem fz {x : Int32} (h : b01 x) : fits .boolean (.int x) = true := by
  rcases h with rfl | rfl
  · decide +kernel
  · decide +kernel
theorem tf01 (b : Prop) [Decidable b] : b01 (tf b) := by
  by_cases h : b
  · exact Or.inr (if_pos h)
  · exact Or.inl (if_neg h)
abbrev pxI (c : Prop) (h : Hp) : String → Hp → Prop := fun E h' => E = eI ∧ ¬ c ∧ h' = h
abbrev pxA (c : Prop) (h : Hp) : String → Hp → Prop := fun E h' => E = eA ∧ ¬ c ∧ h' = h
section Oq
variable {G : Gt} {h : Hp} {A : Nat → Nat} {σ : Sg} {P : PS} {r : Nat → Int32}
set_option maxHeartbeats 4000000 in
theorem c_X3_year (hG : GOk G) (hC : CS h A σ P r) : Ct G yX3_year (.code yX3_year cX3_year 1 (some .int)) 0 0 0 0 [.ref (A 0)] h (is_i (nI (gy σ)) h) pxN := by
  refine Ct.of (by decide +kernel) (Nat.le_of_ble_eq_true rfl) fun F hF hT hN hRm => ?_
  obtain ⟨hI, hT8, hA, h1, h2, h3, h4, h5, h6⟩ := id hC
  refine V.run hF [(.aload_n 0, 1, .null)] (pc' := 1) (L' := [some (.ref (A 0))]) (st' := [.ref (A 0)]) (by decide +kernel) rfl ?_
  refine V.getf hG hF k_RX3_143 (by decide +kernel) hA rfl ?_
  exact V.reti hF (by decide +kernel) ⟨rfl, rfl⟩
set_option maxHeartbeats 4000000 in
theorem c_X3_tablets (hG : GOk G) (hC : CS h A σ P r) : Ct G yX3_tablets (.code yX3_tablets cX3_tablets 1 (some .int)) 0 0 0 0 [.ref (A 0)] h (is_i (nI (gT σ)) h) pxN := by
  refine Ct.of (by decide +kernel) (Nat.le_of_ble_eq_true rfl) fun F hF hT hN hRm => ?_
  obtain ⟨hI, hT8, hA, h1, h2, h3, h4, h5, h6⟩ := id hC
  refine V.run hF [(.aload_n 0, 1, .null)] (pc' := 1) (L' := [some (.ref (A 0))]) (st' := [.ref (A 0)]) (by decide +kernel) rfl ?_
  refine V.getf hG hF k_RX3_40 (by decide +kernel) hA rfl ?_
  exact V.reti hF (by decide +kernel) ⟨rfl, rfl⟩
set_option maxHeartbeats 4000000 in
theorem c_X3_melted (hG : GOk G) (hC : CS h A σ P r) : Ct G yX3_melted (.code yX3_melted cX3_melted 1 (some .int)) 0 0 0 0 [.ref (A 0)] h (is_i (gme σ) h) pxN := by
  refine Ct.of (by decide +kernel) (Nat.le_of_ble_eq_true rfl) fun F hF hT hN hRm => ?_
  obtain ⟨hI, hT8, hA, h1, h2, h3, h4, h5, h6⟩ := id hC
  refine V.run hF [(.aload_n 0, 1, .null)] (pc' := 1) (L' := [some (.ref (A 0))]) (st' := [.ref (A 0)]) (by decide +kernel) rfl ?_
  refine V.getf hG hF k_RX3_140 (by decide +kernel) hA rfl ?_
  exact V.reti hF (by decide +kernel) ⟨rfl, rfl⟩
set_option maxHeartbeats 4000000 in
theorem c_X3_denied (hG : GOk G) (hC : CS h A σ P r) : Ct G yX3_denied (.code yX3_denied cX3_denied 1 (some .int)) 0 0 0 0 [.ref (A 0)] h (is_i (gde σ) h) pxN := by
  refine Ct.of (by decide +kernel) (Nat.le_of_ble_eq_true rfl) fun F hF hT hN hRm => ?_
  obtain ⟨hI, hT8, hA, h1, h2, h3, h4, h5, h6⟩ := id hC
  refine V.run hF [(.aload_n 0, 1, .null)] (pc' := 1) (L' := [some (.ref (A 0))]) (st' := [.ref (A 0)]) (by decide +kernel) rfl ?_
  refine V.getf hG hF k_RX3_106 (by decide +kernel) hA rfl ?_
  exact V.reti hF (by decide +kernel) ⟨rfl, rfl⟩
set_option maxHeartbeats 4000000 in
theorem c_X3_isThere (hG : GOk G) (hC : CS h A σ P r) (x : Int32) (hz : ∀ p, p < 8 → b01 (gth σ p)) : Ct G yX3_isThere (.code yX3_isThere cX3_isThere 2 (some .boolean)) 7 102 1 6 [.ref (A 0), .int x] h (fun v h' => (∃ p, p < 8 ∧ x = nI p ∧ v = some (.int (gth σ p))) ∧ h' = h) (pxI (inP x) h) := by
  refine Ct.of (by decide +kernel) (Nat.le_of_ble_eq_true rfl) fun F hF hT hN hRm => ?_
  obtain ⟨hI, hT8, hA, h1, h2, h3, h4, h5, h6⟩ := id hC
  refine V.run hF [(.iload_n 1, 1, .null)] (pc' := 1) (L' := [some (.ref (A 0)), some (.int x)]) (st' := [.int x]) (by decide +kernel) rfl ?_
  refine V.callS (As := [.int x]) (st := []) hG hF k_RX3_60 (by decide +kernel) (c_X3_checkPerson hG x) rfl ⟨by rw [hRm]; decide, by rw [hRm]; decide⟩ (Nat.le_of_ble_eq_true rfl) rfl (fun v h1' hp => ?_) (fun E h9 hx => VX.out hF hT ⟨hx.1, hx.2.1, hx.2.2⟩)
  obtain ⟨hv, hx, he⟩ := hp
  rw [he, hv]
  show V G F _ _ _ 4 [some (.ref (A 0)), some (.int x)] [] h
  obtain ⟨p, hp8, rfl⟩ := inP_of hx
  refine V.run hF [(.aload_n 0, 1, .null)] (pc' := 5) (L' := [some (.ref (A 0)), some (.int (nI p))]) (st' := [.ref (A 0)]) (by decide +kernel) rfl ?_
  refine V.getf hG hF k_RX3_9 (by decide +kernel) hA rfl ?_
  refine V.run hF [(.iload_n 1, 1, .null)] (pc' := 9) (L' := [some (.ref (A 0)), some (.int (nI p))]) (st' := [.int (nI p), .ref (A 1)]) (by decide +kernel) rfl ?_
  refine V.zaldN (j := p) hG hF (by decide +kernel) h1 (by omega) (by decide) ?_
  exact V.retz hF (by decide +kernel) (nz (hz p hp8)) ⟨⟨p, hp8, rfl, rfl⟩, rfl⟩
set_option maxHeartbeats 4000000 in
theorem c_X3_linesOf (hG : GOk G) (hC : CS h A σ P r) (x : Int32) : Ct G yX3_linesOf (.code yX3_linesOf cX3_linesOf 2 (some .int)) 7 104 2 12 [.ref (A 0), .int x] h (fun v h' => (∃ t, t < gT σ ∧ x = nI t ∧ v = some (.int (nI (gn σ t)))) ∧ h' = h) (pxI (okT σ x) h) := by
  refine Ct.of (by decide +kernel) (Nat.le_of_ble_eq_true rfl) fun F hF hT hN hRm => ?_
  obtain ⟨hI, hT8, hA, h1, h2, h3, h4, h5, h6⟩ := id hC
  refine V.run hF [(.aload_n 0, 1, .null), (.iload_n 1, 1, .null)] (pc' := 2) (L' := [some (.ref (A 0)), some (.int x)]) (st' := [.int x, .ref (A 0)]) (by decide +kernel) rfl ?_
  refine V.callV (As := [.int x]) (st := []) hG hF k_RX3_52 (by decide +kernel) (c_X3_tabletAt hG hC x) hA rfl rfl ⟨by rw [hRm]; decide, by rw [hRm]; decide⟩ (Nat.le_of_ble_eq_true rfl) rfl (fun v h1' hp => ?_) (fun E h9 hx => VX.out hF hT ⟨hx.1, okT_no hT8 hx.2.1, hx.2.2⟩)
  obtain ⟨⟨t, ht, rfl, rfl⟩, he⟩ := hp
  rw [he]
  obtain ⟨t1, t2, t3⟩ := h6 t ht
  show V G F _ _ _ 5 [some (.ref (A 0)), some (.int (nI t))] [.ref (A (12 + 6 * t))] h
  refine V.getf hG hF k_RX3_56 (by decide +kernel) t1 rfl ?_
  refine V.getf hG hF k_RX3_67 (by decide +kernel) t2.1 rfl ?_
  exact V.reti hF (by decide +kernel) ⟨⟨t, ht, rfl, rfl⟩, rfl⟩
set_option maxHeartbeats 4000000 in
theorem c_X3_isInCellar (hG : GOk G) (hC : CS h A σ P r) (x : Int32) (hz : ∀ t, t < gT σ → b01 (gce σ t)) : Ct G yX3_isInCellar (.code yX3_isInCellar cX3_isInCellar 2 (some .boolean)) 7 104 2 12 [.ref (A 0), .int x] h (fun v h' => (∃ t, t < gT σ ∧ x = nI t ∧ v = some (.int (gce σ t))) ∧ h' = h) (pxI (okT σ x) h) := by
  refine Ct.of (by decide +kernel) (Nat.le_of_ble_eq_true rfl) fun F hF hT hN hRm => ?_
  obtain ⟨hI, hT8, hA, h1, h2, h3, h4, h5, h6⟩ := id hC
  refine V.run hF [(.aload_n 0, 1, .null), (.iload_n 1, 1, .null)] (pc' := 2) (L' := [some (.ref (A 0)), some (.int x)]) (st' := [.int x, .ref (A 0)]) (by decide +kernel) rfl ?_
  refine V.callV (As := [.int x]) (st := []) hG hF k_RX3_52 (by decide +kernel) (c_X3_tabletAt hG hC x) hA rfl rfl ⟨by rw [hRm]; decide, by rw [hRm]; decide⟩ (Nat.le_of_ble_eq_true rfl) rfl (fun v h1' hp => ?_) (fun E h9 hx => VX.out hF hT ⟨hx.1, okT_no hT8 hx.2.1, hx.2.2⟩)
  obtain ⟨⟨t, ht, rfl, rfl⟩, he⟩ := hp
  rw [he]
  obtain ⟨t1, t2, t3⟩ := h6 t ht
  show V G F _ _ _ 5 [some (.ref (A 0)), some (.int (nI t))] [.ref (A (12 + 6 * t))] h
  refine V.getf hG hF k_RX3_122 (by decide +kernel) t1 rfl ?_
  exact V.retz hF (by decide +kernel) (nz (hz t ht)) ⟨⟨t, ht, rfl, rfl⟩, rfl⟩
set_option maxHeartbeats 4000000 in
theorem c_X3_debtorOf (hG : GOk G) (hC : CS h A σ P r) (x y : Int32) : Ct G yX3_debtorOf (.code yX3_debtorOf cX3_debtorOf 3 (some .int)) 8 127 3 18 [.ref (A 0), .int x, .int y] h (fun v h' => (∃ t l, t < gT σ ∧ l < gn σ t ∧ x = nI t ∧ y = nI l ∧ v = some (.int (gDD σ t l))) ∧ h' = h) (pxI (okL σ x y) h) := by
  refine Ct.of (by decide +kernel) (Nat.le_of_ble_eq_true rfl) fun F hF hT hN hRm => ?_
  obtain ⟨hI, hT8, hA, h1, h2, h3, h4, h5, h6⟩ := id hC
  refine V.run hF [(.aload_n 0, 1, .null), (.iload_n 1, 1, .null), (.iload_n 2, 1, .null)] (pc' := 3) (L' := [some (.ref (A 0)), some (.int x), some (.int y)]) (st' := [.int y, .int x, .ref (A 0)]) (by decide +kernel) rfl ?_
  refine V.callV (As := [.int x, .int y]) (st := []) hG hF k_RX3_84 (by decide +kernel) (c_X3_linesWith hG hC x y) hA rfl rfl ⟨by rw [hRm]; decide, by rw [hRm]; decide⟩ (Nat.le_of_ble_eq_true rfl) rfl (fun v h1' hp => ?_) (fun E h9 hx => VX.out hF hT ⟨hx.1, hx.2.1, hx.2.2⟩)
  obtain ⟨⟨t, l, ht, hl, rfl, rfl, rfl⟩, he⟩ := hp
  rw [he]
  obtain ⟨t1, t2, t3⟩ := h6 t ht
  show V G F _ _ _ 6 [some (.ref (A 0)), some (.int (nI t)), some (.int (nI l))] [.ref (A (13 + 6 * t))] h
  refine V.getf hG hF k_RX3_101 (by decide +kernel) t2.1 rfl ?_
  refine V.run hF [(.iload_n 2, 1, .null)] (pc' := 10) (L' := [some (.ref (A 0)), some (.int (nI t)), some (.int (nI l))]) (st' := [.int (nI l), .ref (A (14 + 6 * t))]) (by decide +kernel) rfl ?_
  refine V.ialdN (j := l) hG hF (by decide +kernel) t2.2.1 (by omega) (by decide) ?_
  exact V.reti hF (by decide +kernel) ⟨⟨t, l, ht, hl, rfl, rfl, rfl⟩, rfl⟩
set_option maxHeartbeats 4000000 in
theorem c_X3_creditorOf (hG : GOk G) (hC : CS h A σ P r) (x y : Int32) : Ct G yX3_creditorOf (.code yX3_creditorOf cX3_creditorOf 3 (some .int)) 8 127 3 18 [.ref (A 0), .int x, .int y] h (fun v h' => (∃ t l, t < gT σ ∧ l < gn σ t ∧ x = nI t ∧ y = nI l ∧ v = some (.int (gC σ t l))) ∧ h' = h) (pxI (okL σ x y) h) := by
  refine Ct.of (by decide +kernel) (Nat.le_of_ble_eq_true rfl) fun F hF hT hN hRm => ?_
  obtain ⟨hI, hT8, hA, h1, h2, h3, h4, h5, h6⟩ := id hC
  refine V.run hF [(.aload_n 0, 1, .null), (.iload_n 1, 1, .null), (.iload_n 2, 1, .null)] (pc' := 3) (L' := [some (.ref (A 0)), some (.int x), some (.int y)]) (st' := [.int y, .int x, .ref (A 0)]) (by decide +kernel) rfl ?_
  refine V.callV (As := [.int x, .int y]) (st := []) hG hF k_RX3_84 (by decide +kernel) (c_X3_linesWith hG hC x y) hA rfl rfl ⟨by rw [hRm]; decide, by rw [hRm]; decide⟩ (Nat.le_of_ble_eq_true rfl) rfl (fun v h1' hp => ?_) (fun E h9 hx => VX.out hF hT ⟨hx.1, hx.2.1, hx.2.2⟩)
  obtain ⟨⟨t, l, ht, hl, rfl, rfl, rfl⟩, he⟩ := hp
  rw [he]
  obtain ⟨t1, t2, t3⟩ := h6 t ht
  show V G F _ _ _ 6 [some (.ref (A 0)), some (.int (nI t)), some (.int (nI l))] [.ref (A (13 + 6 * t))] h
  refine V.getf hG hF k_RX3_146 (by decide +kernel) t2.1 rfl ?_
  refine V.run hF [(.iload_n 2, 1, .null)] (pc' := 10) (L' := [some (.ref (A 0)), some (.int (nI t)), some (.int (nI l))]) (st' := [.int (nI l), .ref (A (15 + 6 * t))]) (by decide +kernel) rfl ?_
  refine V.ialdN (j := l) hG hF (by decide +kernel) t2.2.2.1 (by omega) (by decide) ?_
  exact V.reti hF (by decide +kernel) ⟨⟨t, l, ht, hl, rfl, rfl, rfl⟩, rfl⟩
set_option maxHeartbeats 4000000 in
theorem c_X3_amountOf (hG : GOk G) (hC : CS h A σ P r) (x y : Int32) : Ct G yX3_amountOf (.code yX3_amountOf cX3_amountOf 3 (some .int)) 8 127 3 18 [.ref (A 0), .int x, .int y] h (fun v h' => (∃ t l, t < gT σ ∧ l < gn σ t ∧ x = nI t ∧ y = nI l ∧ v = some (.int (gM σ t l))) ∧ h' = h) (pxI (okL σ x y) h) := by
  refine Ct.of (by decide +kernel) (Nat.le_of_ble_eq_true rfl) fun F hF hT hN hRm => ?_
  obtain ⟨hI, hT8, hA, h1, h2, h3, h4, h5, h6⟩ := id hC
  refine V.run hF [(.aload_n 0, 1, .null), (.iload_n 1, 1, .null), (.iload_n 2, 1, .null)] (pc' := 3) (L' := [some (.ref (A 0)), some (.int x), some (.int y)]) (st' := [.int y, .int x, .ref (A 0)]) (by decide +kernel) rfl ?_
  refine V.callV (As := [.int x, .int y]) (st := []) hG hF k_RX3_84 (by decide +kernel) (c_X3_linesWith hG hC x y) hA rfl rfl ⟨by rw [hRm]; decide, by rw [hRm]; decide⟩ (Nat.le_of_ble_eq_true rfl) rfl (fun v h1' hp => ?_) (fun E h9 hx => VX.out hF hT ⟨hx.1, hx.2.1, hx.2.2⟩)
  obtain ⟨⟨t, l, ht, hl, rfl, rfl, rfl⟩, he⟩ := hp
  rw [he]
  obtain ⟨t1, t2, t3⟩ := h6 t ht
  show V G F _ _ _ 6 [some (.ref (A 0)), some (.int (nI t)), some (.int (nI l))] [.ref (A (13 + 6 * t))] h
  refine V.getf hG hF k_RX3_88 (by decide +kernel) t2.1 rfl ?_
  refine V.run hF [(.iload_n 2, 1, .null)] (pc' := 10) (L' := [some (.ref (A 0)), some (.int (nI t)), some (.int (nI l))]) (st' := [.int (nI l), .ref (A (16 + 6 * t))]) (by decide +kernel) rfl ?_
  refine V.ialdN (j := l) hG hF (by decide +kernel) t2.2.2.2.1 (by omega) (by decide) ?_
  exact V.reti hF (by decide +kernel) ⟨⟨t, l, ht, hl, rfl, rfl, rfl⟩, rfl⟩
set_option maxHeartbeats 4000000 in
theorem c_X3_isWitnessed (hG : GOk G) (hC : CS h A σ P r) (x y : Int32) : Ct G yX3_isWitnessed (.code yX3_isWitnessed cX3_isWitnessed 3 (some .boolean)) 8 127 3 18 [.ref (A 0), .int x, .int y] h (fun v h' => (∃ t l, t < gT σ ∧ l < gn σ t ∧ x = nI t ∧ y = nI l ∧ v = some (.int (tf (inP (gW σ t l) ∧ ¬ gth σ (gW σ t l).toNatClampNeg = 0)))) ∧ h' = h) (pxI (okL σ x y) h) := by
  refine Ct.of (by decide +kernel) (Nat.le_of_ble_eq_true rfl) fun F hF hT hN hRm => ?_
  obtain ⟨hI, hT8, hA, h1, h2, h3, h4, h5, h6⟩ := id hC
  refine V.run hF [(.aload_n 0, 1, .null), (.aload_n 0, 1, .null), (.iload_n 1, 1, .null), (.iload_n 2, 1, .null)] (pc' := 4) (L' := [some (.ref (A 0)), some (.int x), some (.int y)]) (st' := [.int y, .int x, .ref (A 0), .ref (A 0)]) (by decide +kernel) rfl ?_
  refine V.callV (As := [.int x, .int y]) (st := [.ref (A 0)]) hG hF k_RX3_84 (by decide +kernel) (c_X3_linesWith hG hC x y) hA rfl rfl ⟨by rw [hRm]; decide, by rw [hRm]; decide⟩ (Nat.le_of_ble_eq_true rfl) rfl (fun v h1' hp => ?_) (fun E h9 hx => VX.out hF hT ⟨hx.1, hx.2.1, hx.2.2⟩)
  obtain ⟨⟨t, l, ht, hl, rfl, rfl, rfl⟩, he⟩ := hp
  rw [he]
  obtain ⟨t1, t2, t3⟩ := h6 t ht
  show V G F _ _ _ 7 [some (.ref (A 0)), some (.int (nI t)), some (.int (nI l))] [.ref (A (13 + 6 * t)), .ref (A 0)] h
  refine V.getf hG hF k_RX3_96 (by decide +kernel) t2.1 rfl ?_
  refine V.run hF [(.iload_n 2, 1, .null)] (pc' := 11) (L' := [some (.ref (A 0)), some (.int (nI t)), some (.int (nI l))]) (st' := [.int (nI l), .ref (A (17 + 6 * t)), .ref (A 0)]) (by decide +kernel) rfl ?_
  refine V.ialdN (j := l) hG hF (by decide +kernel) t2.2.2.2.2 (by omega) (by decide) ?_
  refine V.callV (As := [.int ((gW σ t) l)]) (st := []) hG hF k_RX3_74 (by decide +kernel) (c_X3_isPresent hG hC (gW σ t l)) hA rfl rfl ⟨by rw [hRm]; decide, by rw [hRm]; decide⟩ (Nat.le_of_ble_eq_true rfl) rfl (fun v h_2 gp2 => ?_) (fun E h9 hx => hx.elim)
  obtain ⟨rfl, he_gp2⟩ := gp2
  rw [he_gp2]
  show V G F _ _ _ 15 [some (.ref (A 0)), some (.int (nI t)), some (.int (nI l))] [.int (tf (inP (gW σ t l) ∧ ¬ gth σ (gW σ t l).toNatClampNeg = 0))] h
  exact V.retz hF (by decide +kernel) (nz (tf01 _)) ⟨⟨t, l, ht, hl, rfl, rfl, rfl⟩, rfl⟩
set_option maxHeartbeats 4000000 in
theorem c_X3_has (hG : GOk G) (hC : CS h A σ P r) (x : Int32) : Ct G yX3_has (.code yX3_has cX3_has 2 (some .int)) 7 102 1 6 [.ref (A 0), .int x] h (fun v h' => (∃ p, p < 8 ∧ x = nI p ∧ v = some (.int (balT σ (nI p) (gT σ)))) ∧ h' = h) (pxI (inP x) h) := by
  refine Ct.of (by decide +kernel) (Nat.le_of_ble_eq_true rfl) fun F hF hT hN hRm => ?_
  obtain ⟨hI, hT8, hA, h1, h2, h3, h4, h5, h6⟩ := id hC
  refine V.run hF [(.iload_n 1, 1, .null)] (pc' := 1) (L' := [some (.ref (A 0)), some (.int x)]) (st' := [.int x]) (by decide +kernel) rfl ?_
  refine V.callS (As := [.int x]) (st := []) hG hF k_RX3_60 (by decide +kernel) (c_X3_checkPerson hG x) rfl ⟨by rw [hRm]; decide, by rw [hRm]; decide⟩ (Nat.le_of_ble_eq_true rfl) rfl (fun v h1' hp => ?_) (fun E h9 hx => VX.out hF hT ⟨hx.1, hx.2.1, hx.2.2⟩)
  obtain ⟨hv, hx, he⟩ := hp
  rw [he, hv]
  show V G F _ _ _ 4 [some (.ref (A 0)), some (.int x)] [] h
  obtain ⟨p, hp8, rfl⟩ := inP_of hx
  refine V.run hF [(.aload_n 0, 1, .null), (.iload_n 1, 1, .null)] (pc' := 6) (L' := [some (.ref (A 0)), some (.int (nI p))]) (st' := [.int (nI p), .ref (A 0)]) (by decide +kernel) rfl ?_
  refine V.callV (As := [.int (nI p)]) (st := []) hG hF k_RX3_149 (by decide +kernel) (c_X3_balanceOf hG hC (nI p)) hA rfl rfl ⟨by rw [hRm]; decide, by rw [hRm]; decide⟩ (Nat.le_of_ble_eq_true rfl) rfl (fun v h_2 gp2 => ?_) (fun E h9 hx => hx.elim)
  obtain ⟨rfl, he_gp2⟩ := gp2
  rw [he_gp2]
  show V G F _ _ _ 9 [some (.ref (A 0)), some (.int (nI p))] [.int (balT σ (nI p) (gT σ))] h
  exact V.reti hF (by decide +kernel) ⟨⟨p, hp8, rfl, rfl⟩, rfl⟩
set_option maxHeartbeats 4000000 in
theorem c_X3_hasOn (hG : GOk G) (hC : CS h A σ P r) (x y : Int32) : Ct G yX3_hasOn (.code yX3_hasOn cX3_hasOn 4 (some .int)) 7 104 2 12 [.ref (A 0), .int x, .int y] h (fun v h' => (∃ t p, t < gT σ ∧ p < 8 ∧ x = nI t ∧ y = nI p ∧ v = some (.int (bal (gDD σ t) (gC σ t) (gM σ t) (nI p) (gn σ t)))) ∧ h' = h) (pxI (okT σ x ∧ inP y) h) := by
  refine Ct.of (by decide +kernel) (Nat.le_of_ble_eq_true rfl) fun F hF hT hN hRm => ?_
  obtain ⟨hI, hT8, hA, h1, h2, h3, h4, h5, h6⟩ := id hC
  refine V.run hF [(.aload_n 0, 1, .null), (.iload_n 1, 1, .null)] (pc' := 2) (L' := [some (.ref (A 0)), some (.int x), some (.int y), none]) (st' := [.int x, .ref (A 0)]) (by decide +kernel) rfl ?_
  refine V.callV (As := [.int x]) (st := []) hG hF k_RX3_52 (by decide +kernel) (c_X3_tabletAt hG hC x) hA rfl rfl ⟨by rw [hRm]; decide, by rw [hRm]; decide⟩ (Nat.le_of_ble_eq_true rfl) rfl (fun v h1' hp => ?_) (fun E h9 hx => VX.out hF hT ⟨hx.1, fun q => okT_no hT8 hx.2.1 q.1, hx.2.2⟩)
  obtain ⟨⟨t, ht, rfl, rfl⟩, he⟩ := hp
  rw [he]
  obtain ⟨t1, t2, t3⟩ := h6 t ht
  show V G F _ _ _ 5 [some (.ref (A 0)), some (.int (nI t)), some (.int y), none] [.ref (A (12 + 6 * t))] h
  refine V.getf hG hF k_RX3_56 (by decide +kernel) t1 rfl ?_
  refine V.run hF [(.astore_n 3, 1, .null), (.iload_n 2, 1, .null)] (pc' := 10) (L' := [some (.ref (A 0)), some (.int (nI t)), some (.int y), some (.ref (A (13 + 6 * t)))]) (st' := [.int y]) (by decide +kernel) rfl ?_
  refine V.callS (As := [.int y]) (st := []) hG hF k_RX3_60 (by decide +kernel) (c_X3_checkPerson hG y) rfl ⟨by rw [hRm]; decide, by rw [hRm]; decide⟩ (Nat.le_of_ble_eq_true rfl) rfl (fun v' h1'' hp => ?_) (fun E h9 hx => VX.out hF hT ⟨hx.1, fun q => hx.2.1 q.2, hx.2.2⟩)
  obtain ⟨hv, hx, he⟩ := hp
  rw [he, hv]
  show V G F _ _ _ 13 [some (.ref (A 0)), some (.int (nI t)), some (.int y), some (.ref (A (13 + 6 * t)))] [] h
  obtain ⟨p, hp8, rfl⟩ := inP_of hx
  refine V.run hF [(.aload_n 3, 1, .null), (.iload_n 2, 1, .null)] (pc' := 15) (L' := [some (.ref (A 0)), some (.int (nI t)), some (.int (nI p)), some (.ref (A (13 + 6 * t)))]) (st' := [.int (nI p), .ref (A (13 + 6 * t))]) (by decide +kernel) rfl ?_
  refine V.callVN (As := [.int (nI p)]) (st := []) hG hF k_RX3_153 (by decide +kernel) (c_X0_balanceOf hG t2 t3 (nI p)) t2.1 rfl rfl ⟨by rw [hRm]; decide, by rw [hRm]; decide⟩ (Nat.le_of_ble_eq_true rfl) rfl (fun v h_3 gp3 => ?_)
  obtain ⟨rfl, he_gp3⟩ := gp3
  rw [he_gp3]
  show V G F _ _ _ 18 [some (.ref (A 0)), some (.int (nI t)), some (.int (nI p)), some (.ref (A (13 + 6 * t)))] [.int (bal (gDD σ t) (gC σ t) (gM σ t) (nI p) (gn σ t))] h
  exact V.reti hF (by decide +kernel) ⟨⟨t, p, ht, hp8, rfl, rfl, rfl⟩, rfl⟩
set_option maxHeartbeats 4000000 in
theorem c_X3_linesSmoothed (hG : GOk G) (hC : CS h A σ P r) (x : Int32) : Ct G yX3_linesSmoothed (.code yX3_linesSmoothed cX3_linesSmoothed 2 (some .int)) 7 104 2 12 [.ref (A 0), .int x] h (fun v h' => ∃ t, t < gT σ ∧ x = nI t ∧ is_s A σ r h (lf σ t) v h') (pxI (okT σ x) h) := by
  refine Ct.of (by decide +kernel) (Nat.le_of_ble_eq_true rfl) fun F hF hT hN hRm => ?_
  obtain ⟨hI, hT8, hA, h1, h2, h3, h4, h5, h6⟩ := id hC
  refine V.run hF [(.aload_n 0, 1, .null), (.aload_n 0, 1, .null), (.iload_n 1, 1, .null)] (pc' := 3) (L' := [some (.ref (A 0)), some (.int x)]) (st' := [.int x, .ref (A 0), .ref (A 0)]) (by decide +kernel) rfl ?_
  refine V.callV (As := [.int x]) (st := [.ref (A 0)]) hG hF k_RX3_52 (by decide +kernel) (c_X3_tabletAt hG hC x) hA rfl rfl ⟨by rw [hRm]; decide, by rw [hRm]; decide⟩ (Nat.le_of_ble_eq_true rfl) rfl (fun v h1' hp => ?_) (fun E h9 hx => VX.out hF hT ⟨hx.1, okT_no hT8 hx.2.1, hx.2.2⟩)
  obtain ⟨⟨t, ht, rfl, rfl⟩, he⟩ := hp
  rw [he]
  obtain ⟨t1, t2, t3⟩ := h6 t ht
  show V G F _ _ _ 6 [some (.ref (A 0)), some (.int (nI t))] [.ref (A (12 + 6 * t)), .ref (A 0)] h
  refine V.callV (As := [.ref (A (12 + 6 * t))]) (st := []) hG hF k_RX3_173 (by decide +kernel) (c_X3_linesLeftOn hG hC ht) hA rfl rfl ⟨by rw [hRm]; decide, by rw [hRm]; decide⟩ (Nat.le_of_ble_eq_true rfl) rfl (fun v h_2 gp2 => ?_) (fun E h9 hx => hx.elim)
  obtain ⟨rfl, P', hC2, hk⟩ := gp2
  show V G F _ _ _ 9 [some (.ref (A 0)), some (.int (nI t))] [.int (lf σ t)] h_2
  exact V.reti hF (by decide +kernel) ⟨t, ht, rfl, rfl, P', hC2, hk⟩
set_option maxHeartbeats 4000000 in
theorem c_X3_yearsUntilMelted (hG : GOk G) (hC : CS h A σ P r) (x : Int32) (hy : gy σ < 2 ^ 30) : Ct G yX3_yearsUntilMelted (.code yX3_yearsUntilMelted cX3_yearsUntilMelted 2 (some .int)) 7 104 2 12 [.ref (A 0), .int x] h (fun v h' => (∃ t, t < gT σ ∧ x = nI t ∧ v = some (.int (ytm σ t 10 0))) ∧ h' = h) (pxI (okT σ x) h) := by
  refine Ct.of (by decide +kernel) (Nat.le_of_ble_eq_true rfl) fun F hF hT hN hRm => ?_
  obtain ⟨hI, hT8, hA, h1, h2, h3, h4, h5, h6⟩ := id hC
  refine V.run hF [(.aload_n 0, 1, .null), (.aload_n 0, 1, .null), (.iload_n 1, 1, .null)] (pc' := 3) (L' := [some (.ref (A 0)), some (.int x)]) (st' := [.int x, .ref (A 0), .ref (A 0)]) (by decide +kernel) rfl ?_
  refine V.callV (As := [.int x]) (st := [.ref (A 0)]) hG hF k_RX3_52 (by decide +kernel) (c_X3_tabletAt hG hC x) hA rfl rfl ⟨by rw [hRm]; decide, by rw [hRm]; decide⟩ (Nat.le_of_ble_eq_true rfl) rfl (fun v h1' hp => ?_) (fun E h9 hx => VX.out hF hT ⟨hx.1, okT_no hT8 hx.2.1, hx.2.2⟩)
  obtain ⟨⟨t, ht, rfl, rfl⟩, he⟩ := hp
  rw [he]
  obtain ⟨t1, t2, t3⟩ := h6 t ht
  show V G F _ _ _ 6 [some (.ref (A 0)), some (.int (nI t))] [.ref (A (12 + 6 * t)), .ref (A 0)] h
  refine V.callV (As := [.ref (A (12 + 6 * t))]) (st := []) hG hF k_RX3_183 (by decide +kernel) (c_X3_yearsLeftOf hG hC hy ht) hA rfl rfl ⟨by rw [hRm]; decide, by rw [hRm]; decide⟩ (Nat.le_of_ble_eq_true rfl) rfl (fun v h_2 gp2 => ?_) (fun E h9 hx => hx.elim)
  obtain ⟨rfl, he_gp2⟩ := gp2
  rw [he_gp2]
  show V G F _ _ _ 9 [some (.ref (A 0)), some (.int (nI t))] [.int (ytm σ t 10 0)] h
  exact V.reti hF (by decide +kernel) ⟨⟨t, ht, rfl, rfl⟩, rfl⟩
abbrev inH (x : Int32) : Prop := ¬ x < 0 ∧ x < 10
abbrev inE (x : Int32) : Prop := ¬ x < 0 ∧ x ≤ 9
theorem inH_of {x : Int32} (hx : inH x) : ∃ p : Nat, p < 10 ∧ x = nI p := by
  rcases pk_ix x (n := 10) (by decide) with q | q | ⟨j, hj, e⟩
  · exact absurd q hx.1
  · exact absurd hx.2 (Int32.not_lt.mpr q)
  · exact ⟨j, hj, e⟩
set_option maxHeartbeats 4000000 in
theorem c_X3_setHeat (hG : GOk G) (hC : CS h A σ P r) (x y : Int32) : Ct G yX3_setHeat (.code yX3_setHeat cX3_setHeat 4 (some .int)) 6 82 1 6 [.ref (A 0), .int x, .int y] h (fun v h' => ∃ k, k < 10 ∧ x = nI k ∧ inE y ∧ v = some (.int (ghe σ k)) ∧ CS h' A (sHe σ (upd (ghe σ) k y)) P r ∧ kpC h h' A (12 + 6 * gT σ)) (fun E h' => ((E = eI ∧ ¬ inH x) ∨ (E = eA ∧ inH x ∧ ¬ inE y)) ∧ h' = h) := by
  refine Ct.of (by decide +kernel) (Nat.le_of_ble_eq_true rfl) fun F hF hT hN hRm => ?_
  obtain ⟨hI, hT8, hA, h1, h2, h3, h4, h5, h6⟩ := id hC
  refine V.run hF [(.iload_n 1, 1, .null)] (pc' := 1) (L' := [some (.ref (A 0)), some (.int x), some (.int y), none]) (st' := [.int x]) (by decide +kernel) rfl ?_
  refine V.if_lt hF (off := 9) (tgt := 10) (by decide +kernel) (by decide) (fun c1 => ?_) (fun c1 => ?_)
  · skip
    exact V.throwS hG hF hT kt_RX3_128 (by decide +kernel) (by decide +kernel) (by decide +kernel) (by decide +kernel) (by decide +kernel) ⟨by rw [hRm]; decide, by rw [hRm]; decide⟩ ⟨Or.inl ⟨rfl, fun q => q.1 c1⟩, rfl⟩
  · skip
    refine V.run hF [(.iload_n 1, 1, .null), (.bipush 10, 2, .int (nI 10))] (pc' := 7) (L' := [some (.ref (A 0)), some (.int x), some (.int y), none]) (st' := [.int (nI 10), .int x]) (by decide +kernel) rfl ?_
    refine V.icmp_lt hF (off := 13) (tgt := 20) (by decide +kernel) (by decide) (fun c2 => ?_) (fun c2 => ?_)
    · skip
      refine V.run hF [(.iload_n 2, 1, .null)] (pc' := 21) (L' := [some (.ref (A 0)), some (.int x), some (.int y), none]) (st' := [.int y]) (by decide +kernel) rfl ?_
      refine V.if_lt hF (off := 9) (tgt := 30) (by decide +kernel) (by decide) (fun c3 => ?_) (fun c3 => ?_)
      · skip
        exact V.throwS hG hF hT kt_RX3_131 (by decide +kernel) (by decide +kernel) (by decide +kernel) (by decide +kernel) (by decide +kernel) ⟨by rw [hRm]; decide, by rw [hRm]; decide⟩ ⟨Or.inr ⟨rfl, ⟨c1, c2⟩, fun q => q.1 c3⟩, rfl⟩
      · skip
        refine V.run hF [(.iload_n 2, 1, .null), (.bipush 9, 2, .int (nI 9))] (pc' := 27) (L' := [some (.ref (A 0)), some (.int x), some (.int y), none]) (st' := [.int (nI 9), .int y]) (by decide +kernel) rfl ?_
        refine V.icmp_le hF (off := 13) (tgt := 40) (by decide +kernel) (by decide) (fun c4 => ?_) (fun c4 => ?_)
        · obtain ⟨k, hk, rfl⟩ := inH_of ⟨c1, c2⟩
          refine V.run hF [(.aload_n 0, 1, .null)] (pc' := 41) (L' := [some (.ref (A 0)), some (.int (nI k)), some (.int y), none]) (st' := [.ref (A 0)]) (by decide +kernel) rfl ?_
          refine V.getf hG hF k_RX3_19 (by decide +kernel) hA rfl ?_
          refine V.run hF [(.iload_n 1, 1, .null)] (pc' := 45) (L' := [some (.ref (A 0)), some (.int (nI k)), some (.int y), none]) (st' := [.int (nI k), .ref (A 3)]) (by decide +kernel) rfl ?_
          refine V.ialdN (j := k) hG hF (by decide +kernel) h3 (by omega) (by decide) ?_
          refine V.run hF [(.istore_n 3, 1, .null), (.aload_n 0, 1, .null)] (pc' := 48) (L' := [some (.ref (A 0)), some (.int (nI k)), some (.int y), some (.int ((ghe σ) k))]) (st' := [.ref (A 0)]) (by decide +kernel) rfl ?_
          refine V.getf hG hF k_RX3_19 (by decide +kernel) hA rfl ?_
          refine V.run hF [(.iload_n 1, 1, .null), (.iload_n 2, 1, .null)] (pc' := 53) (L' := [some (.ref (A 0)), some (.int (nI k)), some (.int y), some (.int ((ghe σ) k))]) (st' := [.int y, .int (nI k), .ref (A 3)]) (by decide +kernel) rfl ?_
          refine V.iastN (j := k) hG hF (by decide +kernel) h3 (by omega) (by decide) ?_
          obtain ⟨h_1, gh1⟩ : ∃ z : Hp, z = hset h (A 3) (.inl (0, 10, .inl (upd (ghe σ) k y))) := ⟨_, rfl⟩
          refine V.hp gh1 ?_
          have gk1 : ∀ q : Nat, q ≠ (A 3) → h_1 q = h q := fun q hq => by rw [gh1]; exact hset_ne hq
          have gs1 : h_1 (A 3) = some (.inl (0, 10, .inl (upd (ghe σ) k y))) := by rw [gh1]; exact hset_eq
          refine V.run hF [(.iload_n 3, 1, .null)] (pc' := 55) (L' := [some (.ref (A 0)), some (.int (nI k)), some (.int y), some (.int ((ghe σ) k))]) (st' := [.int ((ghe σ) k)]) (by decide +kernel) rfl ?_
          have hC2 := hC.he (he := upd (ghe σ) k y) gs1 (fun q hq => gk1 q hq)
          exact V.reti hF (by decide +kernel) ⟨k, hk, rfl, ⟨c3, c4⟩, rfl, hC2, kpC.one (by omega) (fun q hq => gk1 q hq)⟩
        · skip
          exact V.throwS hG hF hT kt_RX3_131 (by decide +kernel) (by decide +kernel) (by decide +kernel) (by decide +kernel) (by decide +kernel) ⟨by rw [hRm]; decide, by rw [hRm]; decide⟩ ⟨Or.inr ⟨rfl, ⟨c1, c2⟩, fun q => c4 q.2⟩, rfl⟩
    · skip
      exact V.throwS hG hF hT kt_RX3_128 (by decide +kernel) (by decide +kernel) (by decide +kernel) (by decide +kernel) (by decide +kernel) ⟨by rw [hRm]; decide, by rw [hRm]; decide⟩ ⟨Or.inl ⟨rfl, fun q => c2 q.2⟩, rfl⟩
end Oq
end
section
/-! ===== TallyWax: public operations that change ===== -/
section Op
variable {G : Gt} {h : Hp} {A : Nat → Nat} {σ : Sg} {P : PS} {r : Nat → Int32}
abbrev ng (x : Int32) : Int32 := if x = 0 then 1 else 0
theorem ng01 (x : Int32) : b01 (ng x) := tf01 _
theorem upd_s {f : Nat → Int32} {k : Nat} {v : Int32} : upd f k v k = v := if_pos rfl
set_option maxHeartbeats 4000000 in
theorem c_X3_turn (hG : GOk G) (hC : CS h A σ P r) (x : Int32) : Ct G yX3_turn (.code yX3_turn cX3_turn 2 (some .boolean)) 7 102 1 6 [.ref (A 0), .int x] h
    (fun v h' => ∃ p, p < 8 ∧ x = nI p ∧ v = some (.int (ng (gth σ p))) ∧ CS h' A (sTh σ (upd (gth σ) p (ng (gth σ p)))) P r ∧ kpC h h' A (12 + 6 * gT σ)) (pxI (inP x) h) := by
  refine Ct.of (by decide +kernel) (Nat.le_of_ble_eq_true rfl) fun F hF hT hN hRm => ?_
  obtain ⟨hI, hT8, hA, h1, h2, h3, h4, h5, h6⟩ := id hC
  refine V.run hF [(.iload_n 1, 1, .null)] (pc' := 1) (L' := [some (.ref (A 0)), some (.int x)]) (st' := [.int x]) (by decide +kernel) rfl ?_
  refine V.callS (As := [.int x]) (st := []) hG hF k_RX3_60 (by decide +kernel) (c_X3_checkPerson hG x) rfl ⟨by rw [hRm]; decide, by rw [hRm]; decide⟩ (Nat.le_of_ble_eq_true rfl) rfl (fun v h1' hp => ?_) (fun E h9 hx => VX.out hF hT ⟨hx.1, hx.2.1, hx.2.2⟩)
  obtain ⟨hv, hx, he⟩ := hp
  rw [he, hv]
  show V G F _ _ _ 4 [some (.ref (A 0)), some (.int x)] [] h
  obtain ⟨p, hp8, rfl⟩ := inP_of hx
  have ne01 : A 0 ≠ A 1 := hI.ne (by omega) (by omega) (by omega)
  refine V.run hF [(.aload_n 0, 1, .null)] (pc' := 5) (L' := [some (.ref (A 0)), some (.int (nI p))]) (st' := [.ref (A 0)]) (by decide +kernel) rfl ?_
  refine V.getf hG hF k_RX3_9 (by decide +kernel) hA rfl ?_
  refine V.run hF [(.iload_n 1, 1, .null), (.aload_n 0, 1, .null)] (pc' := 10) (L' := [some (.ref (A 0)), some (.int (nI p))]) (st' := [.ref (A 0), .int (nI p), .ref (A 1)]) (by decide +kernel) rfl ?_
  refine V.getf hG hF k_RX3_9 (by decide +kernel) hA rfl ?_
  refine V.run hF [(.iload_n 1, 1, .null)] (pc' := 14) (L' := [some (.ref (A 0)), some (.int (nI p))]) (st' := [.int (nI p), .ref (A 1), .int (nI p), .ref (A 1)]) (by decide +kernel) rfl ?_
  refine V.zaldN (j := p) hG hF (by decide +kernel) h1 (by omega) (by decide) ?_
  refine V.if_ne hF (off := 7) (tgt := 22) (by decide +kernel) (by decide) (fun c1 => ?_) (fun c1 => ?_)
  · skip
    refine V.run hF [(.iconst 0, 1, .int 0)] (pc' := 23) (L' := [some (.ref (A 0)), some (.int (nI p))]) (st' := [.int 0, .int (nI p), .ref (A 1)]) (by decide +kernel) rfl ?_
    have e : ng (gth σ p) = 0 := if_neg c1
    refine V.zastN (j := p) hG hF (by decide +kernel) h1 (by omega) (by decide) rfl ?_
    obtain ⟨h_2, gh2⟩ : ∃ z : Hp, z = hset h (A 1) (.inl (1, 8, .inl (upd (gth σ) p 0))) := ⟨_, rfl⟩
    refine V.hp gh2 ?_
    have gk2 : ∀ q : Nat, q ≠ (A 1) → h_2 q = h q := fun q hq => by rw [gh2]; exact hset_ne hq
    have gs2 : h_2 (A 1) = some (.inl (1, 8, .inl (upd (gth σ) p 0))) := by rw [gh2]; exact hset_eq
    have hC2 := hC.th (th := upd (gth σ) p 0) gs2 (fun q hq => gk2 q hq)
    refine V.run hF [(.aload_n 0, 1, .null)] (pc' := 25) (L' := [some (.ref (A 0)), some (.int (nI p))]) (st' := [.ref (A 0)]) (by decide +kernel) rfl ?_
    have gf3 : h_2 (A 0) = some (.inr (3, [.ref (A 1), .ref (A 2), .ref (A 3), .ref (A 4), .ref (A 5), .int (nI (gT σ)), .int (nI (gy σ)), .int (gme σ), .int (gde σ)])) := (gk2 (A 0) (by first | assumption | exact Ne.symm (by assumption) | omega)).trans hA
    refine V.getf hG hF k_RX3_9 (by decide +kernel) gf3 rfl ?_
    refine V.run hF [(.iload_n 1, 1, .null)] (pc' := 29) (L' := [some (.ref (A 0)), some (.int (nI p))]) (st' := [.int (nI p), .ref (A 1)]) (by decide +kernel) rfl ?_
    refine V.zaldN (j := p) hG hF (by decide +kernel) gs2 (by omega) (by decide) ?_
    rw [upd_s]
    exact V.retz hF (by decide +kernel) (nz (Or.inl rfl)) ⟨p, hp8, rfl, by rw [e], by rw [e]; exact hC2, kpC.one (by omega) (fun q hq => gk2 q hq)⟩
  · skip
    have e : ng (gth σ p) = 1 := if_pos c1
    refine V.run hF [(.iconst 1, 1, .int 1), (.goto 4, 3, .null)] (pc' := 23) (L' := [some (.ref (A 0)), some (.int (nI p))]) (st' := [.int 1, .int (nI p), .ref (A 1)]) (by decide +kernel) rfl ?_
    refine V.zastN (j := p) hG hF (by decide +kernel) h1 (by omega) (by decide) rfl ?_
    obtain ⟨h_4, gh4⟩ : ∃ z : Hp, z = hset h (A 1) (.inl (1, 8, .inl (upd (gth σ) p 1))) := ⟨_, rfl⟩
    refine V.hp gh4 ?_
    have gk4 : ∀ q : Nat, q ≠ (A 1) → h_4 q = h q := fun q hq => by rw [gh4]; exact hset_ne hq
    have gs4 : h_4 (A 1) = some (.inl (1, 8, .inl (upd (gth σ) p 1))) := by rw [gh4]; exact hset_eq
    have hC2 := hC.th (th := upd (gth σ) p 1) gs4 (fun q hq => gk4 q hq)
    refine V.run hF [(.aload_n 0, 1, .null)] (pc' := 25) (L' := [some (.ref (A 0)), some (.int (nI p))]) (st' := [.ref (A 0)]) (by decide +kernel) rfl ?_
    have gf5 : h_4 (A 0) = some (.inr (3, [.ref (A 1), .ref (A 2), .ref (A 3), .ref (A 4), .ref (A 5), .int (nI (gT σ)), .int (nI (gy σ)), .int (gme σ), .int (gde σ)])) := (gk4 (A 0) (by first | assumption | exact Ne.symm (by assumption) | omega)).trans hA
    refine V.getf hG hF k_RX3_9 (by decide +kernel) gf5 rfl ?_
    refine V.run hF [(.iload_n 1, 1, .null)] (pc' := 29) (L' := [some (.ref (A 0)), some (.int (nI p))]) (st' := [.int (nI p), .ref (A 1)]) (by decide +kernel) rfl ?_
    refine V.zaldN (j := p) hG hF (by decide +kernel) gs4 (by omega) (by decide) ?_
    rw [upd_s]
    exact V.retz hF (by decide +kernel) (nz (Or.inr rfl)) ⟨p, hp8, rfl, by rw [e], by rw [e]; exact hC2, kpC.one (by omega) (fun q hq => gk4 q hq)⟩
set_option maxHeartbeats 4000000 in
theorem c_X3_carry (hG : GOk G) (hC : CS h A σ P r) (x : Int32) : Ct G yX3_carry (.code yX3_carry cX3_carry 3 (some .boolean)) 7 104 2 12 [.ref (A 0), .int x] h
    (fun v h' => ∃ t, t < gT σ ∧ x = nI t ∧ v = some (.int (ng (gce σ t))) ∧ CS h' A (sTab σ t (gha σ t) (ng (gce σ t)) (gn σ t) (gDD σ t) (gC σ t) (gM σ t) (gW σ t)) P r ∧ kpC h h' A (12 + 6 * gT σ)) (pxI (okT σ x) h) := by
  refine Ct.of (by decide +kernel) (Nat.le_of_ble_eq_true rfl) fun F hF hT hN hRm => ?_
  obtain ⟨hI, hT8, hA, h1, h2, h3, h4, h5, h6⟩ := id hC
  refine V.run hF [(.aload_n 0, 1, .null), (.iload_n 1, 1, .null)] (pc' := 2) (L' := [some (.ref (A 0)), some (.int x), none]) (st' := [.int x, .ref (A 0)]) (by decide +kernel) rfl ?_
  refine V.callV (As := [.int x]) (st := []) hG hF k_RX3_52 (by decide +kernel) (c_X3_tabletAt hG hC x) hA rfl rfl ⟨by rw [hRm]; decide, by rw [hRm]; decide⟩ (Nat.le_of_ble_eq_true rfl) rfl (fun v h1' hp => ?_) (fun E h9 hx => VX.out hF hT ⟨hx.1, okT_no hT8 hx.2.1, hx.2.2⟩)
  obtain ⟨⟨t, ht, rfl, rfl⟩, he⟩ := hp
  rw [he]
  obtain ⟨t1, t2, t3⟩ := h6 t ht
  show V G F _ _ _ 5 [some (.ref (A 0)), some (.int (nI t)), none] [.ref (A (12 + 6 * t))] h
  refine V.run hF [(.astore_n 2, 1, .null), (.aload_n 2, 1, .null), (.aload_n 2, 1, .null)] (pc' := 8) (L' := [some (.ref (A 0)), some (.int (nI t)), some (.ref (A (12 + 6 * t)))]) (st' := [.ref (A (12 + 6 * t)), .ref (A (12 + 6 * t))]) (by decide +kernel) rfl ?_
  refine V.getf hG hF k_RX3_122 (by decide +kernel) t1 rfl ?_
  refine V.if_ne hF (off := 7) (tgt := 18) (by decide +kernel) (by decide) (fun c1 => ?_) (fun c1 => ?_)
  · have e : ng (gce σ t) = 0 := if_neg c1
    refine V.run hF [(.iconst 0, 1, .int 0)] (pc' := 19) (L' := [some (.ref (A 0)), some (.int (nI t)), some (.ref (A (12 + 6 * t)))]) (st' := [.int 0, .ref (A (12 + 6 * t))]) (by decide +kernel) rfl ?_
    refine V.putf hG hF k_RX3_122 (by decide +kernel) t1 (fun C T N hc => by cases hc; exact ⟨rfl, .boolean, by decide +kernel, (nz (Or.inl rfl)), (fz (Or.inl rfl))⟩) (Nat.le_of_ble_eq_true rfl) ?_
    obtain ⟨h_2, gh2⟩ : ∃ z : Hp, z = hset h (A (12 + 6 * t)) (.inr (2, [.int (gha σ t), .int 0, .ref (A (13 + 6 * t))])) := ⟨_, rfl⟩
    refine V.hp gh2 ?_
    have gk2 : ∀ q : Nat, q ≠ (A (12 + 6 * t)) → h_2 q = h q := fun q hq => by rw [gh2]; exact hset_ne hq
    have gs2 : h_2 (A (12 + 6 * t)) = some (.inr (2, [.int (gha σ t), .int 0, .ref (A (13 + 6 * t))])) := by rw [gh2]; exact hset_eq
    have hC2 := hC.tab (h' := h_2) ht (ha := gha σ t) (ce := 0) gs2 (t2.mv (fun q hq => gk2 q (by
      simp only [List.mem_cons, List.not_mem_nil, or_false] at hq
      rcases hq with rfl | rfl | rfl | rfl | rfl <;> exact hI.ne (by omega) (by omega) (by omega)))) t3 (fun q hq => gk2 q (hq _ (by omega) (by omega)))
    refine V.run hF [(.aload_n 2, 1, .null)] (pc' := 23) (L' := [some (.ref (A 0)), some (.int (nI t)), some (.ref (A (12 + 6 * t)))]) (st' := [.ref (A (12 + 6 * t))]) (by decide +kernel) rfl ?_
    refine V.getf hG hF k_RX3_122 (by decide +kernel) gs2 rfl ?_
    exact V.retz hF (by decide +kernel) (nz (Or.inl rfl)) ⟨t, ht, rfl, by rw [e], by rw [e]; exact hC2, kpC.one (by omega) (fun q hq => gk2 q hq)⟩
  · skip
    have e : ng (gce σ t) = 1 := if_pos c1
    refine V.run hF [(.iconst 1, 1, .int 1), (.goto 4, 3, .null)] (pc' := 19) (L' := [some (.ref (A 0)), some (.int (nI t)), some (.ref (A (12 + 6 * t)))]) (st' := [.int 1, .ref (A (12 + 6 * t))]) (by decide +kernel) rfl ?_
    refine V.putf hG hF k_RX3_122 (by decide +kernel) t1 (fun C T N hc => by cases hc; exact ⟨rfl, .boolean, by decide +kernel, (nz (Or.inr rfl)), (fz (Or.inr rfl))⟩) (Nat.le_of_ble_eq_true rfl) ?_
    obtain ⟨h_3, gh3⟩ : ∃ z : Hp, z = hset h (A (12 + 6 * t)) (.inr (2, [.int (gha σ t), .int 1, .ref (A (13 + 6 * t))])) := ⟨_, rfl⟩
    refine V.hp gh3 ?_
    have gk3 : ∀ q : Nat, q ≠ (A (12 + 6 * t)) → h_3 q = h q := fun q hq => by rw [gh3]; exact hset_ne hq
    have gs3 : h_3 (A (12 + 6 * t)) = some (.inr (2, [.int (gha σ t), .int 1, .ref (A (13 + 6 * t))])) := by rw [gh3]; exact hset_eq
    have hC2 := hC.tab (h' := h_3) ht (ha := gha σ t) (ce := 1) gs3 (t2.mv (fun q hq => gk3 q (by
      simp only [List.mem_cons, List.not_mem_nil, or_false] at hq
      rcases hq with rfl | rfl | rfl | rfl | rfl <;> exact hI.ne (by omega) (by omega) (by omega)))) t3 (fun q hq => gk3 q (hq _ (by omega) (by omega)))
    refine V.run hF [(.aload_n 2, 1, .null)] (pc' := 23) (L' := [some (.ref (A 0)), some (.int (nI t)), some (.ref (A (12 + 6 * t)))]) (st' := [.ref (A (12 + 6 * t))]) (by decide +kernel) rfl ?_
    refine V.getf hG hF k_RX3_122 (by decide +kernel) gs3 rfl ?_
    exact V.retz hF (by decide +kernel) (nz (Or.inr rfl)) ⟨t, ht, rfl, by rw [e], by rw [e]; exact hC2, kpC.one (by omega) (fun q hq => gk3 q hq)⟩
end Op
end
section
/-! ===== TallyWax: pass, write, pay, deny ===== -/
section Or
variable {G : Gt} {h : Hp} {A : Nat → Nat} {σ : Sg} {P : PS} {r : Nat → Int32}
def sPass (σ : Sg) (n : Nat) : Sg := sYmd (yrN n σ) (gy σ + n) (gme σ + goN n σ) (gde σ)
set_option maxHeartbeats 4000000 in
theorem c_X3_pass (hG : GOk G) (hC : CS h A σ P r) (hy : gy σ < 2 ^ 29) (x : Int32) : Ct G yX3_pass (.code yX3_pass cX3_pass 4 (some .int)) 7 102 1 6 [.ref (A 0), .int x] h
    (fun v h' => ∃ n, n ≤ 40 ∧ x = nI n ∧ inY x ∧ v = some (.int (goN n σ)) ∧ CS h' A (sPass σ n) P r ∧ kpC h h' A (12 + 6 * gT σ)) (pxA (inY x) h) := by
  refine Ct.of (by decide +kernel) (Nat.le_of_ble_eq_true rfl) fun F hF hT hN hRm => ?_
  obtain ⟨hI, hT8, hA, h1, h2, h3, h4, h5, h6⟩ := id hC
  refine V.run hF [(.iload_n 1, 1, .null)] (pc' := 1) (L' := [some (.ref (A 0)), some (.int x), none, none]) (st' := [.int x]) (by decide +kernel) rfl ?_
  refine V.callS (As := [.int x]) (st := []) hG hF k_RX3_133 (by decide +kernel) (c_X3_checkYears hG x) rfl ⟨by rw [hRm]; decide, by rw [hRm]; decide⟩ (Nat.le_of_ble_eq_true rfl) rfl (fun v h1' hp => ?_) (fun E h9 hx => VX.out hF hT ⟨hx.1, hx.2.1, hx.2.2⟩)
  obtain ⟨hv, hx, he⟩ := hp
  rw [he, hv]
  show V G F _ _ _ 4 [some (.ref (A 0)), some (.int x), none, none] [] h
  obtain ⟨n, hn, rfl⟩ : ∃ n : Nat, n ≤ 40 ∧ x = nI n := by
    rcases pk_ix x (n := 41) (by decide) with q | q | ⟨j, hj, e⟩
    · exact absurd (Int32.lt_trans q (by decide)) hx.1
    · exact absurd (Int32.le_trans q hx.2) (by decide)
    · exact ⟨j, by omega, e⟩
  have loop : ∀ k, k ≤ n → ∀ h1 : Hp, CS h1 A (yrN k σ) P r → kpC h h1 A (12 + 6 * gT σ) → V G F (fin G F (fun v h' => ∃ n', n' ≤ 40 ∧ nI n = nI n' ∧ inY (nI n) ∧ v = some (.int (goN n' σ)) ∧ CS h' A (sPass σ n') P r ∧ kpC h h' A (12 + 6 * gT σ)) (pxA (inY (nI n)) h)) 0 0 8 [some (.ref (A 0)), some (.int (nI n)), some (.int (goN k σ)), some (.int (nI k))] [] h1 := by
    refine lp_up n fun k hk ih => ?_
    intro h1 hC1 hk1
    obtain ⟨-, -, gA, -⟩ := id hC1
    refine V.run hF [(.iload_n 3, 1, .null), (.iload_n 1, 1, .null)] (pc' := 10) (L' := [some (.ref (A 0)), some (.int (nI n)), some (.int (goN k σ)), some (.int (nI k))]) (st' := [.int (nI n), .int (nI k)]) (by decide +kernel) rfl ?_
    refine V.icmpN_ge (i := k) (j := n) hF (off := 16) (tgt := 26) (by decide +kernel) (by decide) (by omega) (by omega) (fun c1 => ?_) (fun c1 => ?_)
    · have e : k = n := by omega
      subst e
      refine V.run hF [(.aload_n 0, 1, .null), (.dup, 1, .null)] (pc' := 28) (L' := [some (.ref (A 0)), some (.int (nI k)), some (.int (goN k σ)), some (.int (nI k))]) (st' := [.ref (A 0), .ref (A 0)]) (by decide +kernel) rfl ?_
      refine V.getf hG hF k_RX3_140 (by decide +kernel) gA rfl ?_
      refine V.run hF [(.iload_n 2, 1, .null), (.iadd, 1, .null)] (pc' := 33) (L' := [some (.ref (A 0)), some (.int (nI k)), some (.int (goN k σ)), some (.int (nI k))]) (st' := [.int (gme (yrN k σ) + goN k σ), .ref (A 0)]) (by decide +kernel) rfl ?_
      refine V.putf hG hF k_RX3_140 (by decide +kernel) gA (fun C T N hc => by cases hc; exact ⟨rfl, .int, by decide +kernel, rfl, rfl⟩) (Nat.le_of_ble_eq_true rfl) ?_
      obtain ⟨h_2, gh2⟩ : ∃ z : Hp, z = hset h1 (A 0) (.inr (3, [.ref (A 1), .ref (A 2), .ref (A 3), .ref (A 4), .ref (A 5), .int (nI (gT (yrN k σ))), .int (nI (gy (yrN k σ))), .int (gme (yrN k σ) + goN k σ), .int (gde (yrN k σ))])) := ⟨_, rfl⟩
      refine V.hp gh2 ?_
      have gk2 : ∀ q : Nat, q ≠ (A 0) → h_2 q = h1 q := fun q hq => by rw [gh2]; exact hset_ne hq
      have gs2 : h_2 (A 0) = some (.inr (3, [.ref (A 1), .ref (A 2), .ref (A 3), .ref (A 4), .ref (A 5), .int (nI (gT (yrN k σ))), .int (nI (gy (yrN k σ))), .int (gme (yrN k σ) + goN k σ), .int (gde (yrN k σ))])) := by rw [gh2]; exact hset_eq
      refine V.run hF [(.iload_n 2, 1, .null)] (pc' := 37) (L' := [some (.ref (A 0)), some (.int (nI k)), some (.int (goN k σ)), some (.int (nI k))]) (st' := [.int (goN k σ)]) (by decide +kernel) rfl ?_
      have hC2 := hC1.ymd (y := gy (yrN k σ)) (me := gme (yrN k σ) + goN k σ) (de := gde (yrN k σ)) gs2 (fun q hq => gk2 q hq)
      rw [yrN_y, yrN_me, yrN_de] at hC2
      exact V.reti hF (by decide +kernel) ⟨k, hn, rfl, hx, rfl, hC2, hk1.tr (kpC.one (by omega) (fun q hq => gk2 q hq))⟩
    · skip
      refine V.run hF [(.iload_n 2, 1, .null), (.aload_n 0, 1, .null)] (pc' := 15) (L' := [some (.ref (A 0)), some (.int (nI n)), some (.int (goN k σ)), some (.int (nI k))]) (st' := [.ref (A 0), .int (goN k σ)]) (by decide +kernel) rfl ?_
      refine V.callV (As := []) (st := [.int (goN k σ)]) hG hF k_RX3_136 (by decide +kernel) (c_X3_passOneYear hG hC1 (by rw [yrN_y]; omega)) gA rfl rfl ⟨by rw [hRm]; decide, by rw [hRm]; decide⟩ (Nat.le_of_ble_eq_true rfl) rfl (fun v' h2 hp => ?_) (fun E h9 hx => hx.elim)
      obtain ⟨rfl, hC2, hk2⟩ := hp
      rw [yrN_T] at hk2
      show V G F _ _ _ 18 [some (.ref (A 0)), some (.int (nI n)), some (.int (goN k σ)), some (.int (nI k))] [.int (gon (yrN k σ) (gT (yrN k σ))), .int (goN k σ)] h2
      refine V.run hF [(.iadd, 1, .null), (.istore_n 2, 1, .null), (.iinc 3 1, 3, .int 1), (.goto (-15), 3, .null)] (pc' := 8) (L' := [some (.ref (A 0)), some (.int (nI n)), some (.int (goN k σ + gon (yrN k σ) (gT (yrN k σ)))), some (.int ((nI k) + 1))]) (st' := []) (by decide +kernel) rfl ?_
      rw [nI_1 k]
      have := ih c1 h2 hC2 (hk1.tr hk2)
      rw [show goN (k + 1) σ = goN k σ + gon (yrN k σ) (gT (yrN k σ)) by rw [yrN_T]; rfl] at this
      exact this
  refine V.run hF [(.iconst 0, 1, .int 0), (.istore_n 2, 1, .null), (.iconst 0, 1, .int (nI 0)), (.istore_n 3, 1, .null)] (pc' := 8) (L' := [some (.ref (A 0)), some (.int (nI n)), some (.int 0), some (.int (nI 0))]) (st' := []) (by decide +kernel) rfl ?_
  exact loop 0 (Nat.zero_le _) h hC kpC.rf
abbrev prs (σ : Sg) (x : Int32) : Prop := inP x ∧ ¬ gth σ x.toNatClampNeg = 0
abbrev px3 (c1 c2 c3 : Prop) (h : Hp) : String → Hp → Prop := fun E h' => ((E = eI ∧ ¬ c1) ∨ (E = eA ∧ c1 ∧ ¬ c2) ∨ (E = eS ∧ c1 ∧ c2 ∧ ¬ c3)) ∧ h' = h
abbrev wr1 (σ : Sg) (x d c w : Int32) : Prop := okT σ x ∧ inP d ∧ inP c ∧ inP w
abbrev wr2 (d c a w : Int32) : Prop := ¬ (d = c ∨ d = w ∨ c = w) ∧ ¬ a < 1 ∧ a ≤ 999
abbrev wr3 (σ : Sg) (x d c w : Int32) : Prop := gn σ x.toNatClampNeg < 12 ∧ prs σ d ∧ prs σ c ∧ prs σ w
def sWrite (σ : Sg) (t : Nat) (d c a w : Int32) : Sg := sTab σ t (gha σ t) (gce σ t) (gn σ t + 1) (upd (gDD σ t) (gn σ t) d) (upd (gC σ t) (gn σ t) c) (upd (gM σ t) (gn σ t) a) (upd (gW σ t) (gn σ t) w)
theorem tf_1 {b : Prop} [Decidable b] (h : ¬ tf b = 0) : b := Classical.byContradiction fun q => h (if_neg q)
theorem tf_0 {b : Prop} [Decidable b] (h : tf b = 0) : ¬ b := fun q => by
  rw [tf, if_pos q] at h; cases h
/-- the five cells of a tablet's lines change -/
theorem CS.ln {h' : Hp} (hC : CS h A σ P r) {t : Nat} (ht : t < gT σ) {n : Nat} {D C M W : Nat → Int32} (hL : LLc h' (A (13 + 6 * t)) (A (14 + 6 * t)) (A (15 + 6 * t)) (A (16 + 6 * t)) (A (17 + 6 * t)) D C M W n) (hn : n ≤ 12) (hk : kp5 h h' (A (13 + 6 * t)) (A (14 + 6 * t)) (A (15 + 6 * t)) (A (16 + 6 * t)) (A (17 + 6 * t))) :
    CS h' A (sTab σ t (gha σ t) (gce σ t) n D C M W) P r ∧ kpC h h' A (12 + 6 * gT σ) := by
  have n' : ∀ i, 13 + 6 * t ≤ i → i < 18 + 6 * t → A (12 + 6 * t) ≠ A i := fun i h1 h2 => hC.1.ne (by omega) (by omega) (by omega)
  exact ⟨hC.tab ht ((hk _ (n' _ (by omega) (by omega)) (n' _ (by omega) (by omega)) (n' _ (by omega) (by omega)) (n' _ (by omega) (by omega)) (n' _ (by omega) (by omega))).trans (hC.2.2.2.2.2.2.2.2 t ht).1) hL hn (fun q hq => hk q (hq _ (by omega) (by omega)) (hq _ (by omega) (by omega)) (hq _ (by omega) (by omega)) (hq _ (by omega) (by omega)) (hq _ (by omega) (by omega))),
    fun q hq => hk q (hq _ (by omega)) (hq _ (by omega)) (hq _ (by omega)) (hq _ (by omega)) (hq _ (by omega))⟩
set_option maxHeartbeats 8000000 in
theorem c_X3_write (hG : GOk G) (hC : CS h A σ P r) (x d c a w : Int32) : Ct G yX3_write (.code yX3_write cX3_write 8 (some .int)) 7 104 8 48 [.ref (A 0), .int x, .int d, .int c, .int a, .int w] h
    (fun v h' => wr1 σ x d c w ∧ wr2 d c a w ∧ wr3 σ x d c w ∧ ∃ t, t < gT σ ∧ x = nI t ∧ v = some (.int (nI (gn σ t))) ∧ CS h' A (sWrite σ t d c a w) P r ∧ kpC h h' A (12 + 6 * gT σ)) (px3 (wr1 σ x d c w) (wr2 d c a w) (wr3 σ x d c w) h) := by
  refine Ct.of (by decide +kernel) (Nat.le_of_ble_eq_true rfl) fun F hF hT hN hRm => ?_
  obtain ⟨hI, hT8, hA, h1, h2, h3, h4, h5, h6⟩ := id hC
  refine V.run hF [(.aload_n 0, 1, .null), (.iload_n 1, 1, .null)] (pc' := 2) (L' := [some (.ref (A 0)), some (.int x), some (.int d), some (.int c), some (.int a), some (.int w), none, none]) (st' := [.int x, .ref (A 0)]) (by decide +kernel) rfl ?_
  refine V.callV (As := [.int x]) (st := []) hG hF k_RX3_52 (by decide +kernel) (c_X3_tabletAt hG hC x) hA rfl rfl ⟨by rw [hRm]; decide, by rw [hRm]; decide⟩ (Nat.le_of_ble_eq_true rfl) rfl (fun v h1' hp => ?_) (fun E h9 hx => VX.out hF hT ⟨Or.inl ⟨hx.1, fun q => okT_no hT8 hx.2.1 q.1⟩, hx.2.2⟩)
  obtain ⟨⟨t, ht, rfl, rfl⟩, he⟩ := hp
  rw [he]
  obtain ⟨t1, t2, t3⟩ := h6 t ht
  show V G F _ _ _ 5 [some (.ref (A 0)), some (.int (nI t)), some (.int d), some (.int c), some (.int a), some (.int w), none, none] [.ref (A (12 + 6 * t))] h
  have hcl : (nI t).toNatClampNeg = t := nI_clamp (by omega)
  refine V.getf hG hF k_RX3_56 (by decide +kernel) t1 rfl ?_
  refine V.run hF [(.astore 6, 2, .null), (.iload_n 2, 1, .null)] (pc' := 11) (L' := [some (.ref (A 0)), some (.int (nI t)), some (.int d), some (.int c), some (.int a), some (.int w), some (.ref (A (13 + 6 * t))), none]) (st' := [.int d]) (by decide +kernel) rfl ?_
  refine V.callS (As := [.int d]) (st := []) hG hF k_RX3_60 (by decide +kernel) (c_X3_checkPerson hG d) rfl ⟨by rw [hRm]; decide, by rw [hRm]; decide⟩ (Nat.le_of_ble_eq_true rfl) rfl (fun v1 h1' hp => ?_) (fun E h9 hx => VX.out hF hT ⟨Or.inl ⟨hx.1, fun q => hx.2.1 q.2.1⟩, hx.2.2⟩)
  obtain ⟨hv, hd, he⟩ := hp
  rw [he, hv]
  show V G F _ _ _ 14 [some (.ref (A 0)), some (.int (nI t)), some (.int d), some (.int c), some (.int a), some (.int w), some (.ref (A (13 + 6 * t))), none] [] h
  refine V.run hF [(.iload_n 3, 1, .null)] (pc' := 15) (L' := [some (.ref (A 0)), some (.int (nI t)), some (.int d), some (.int c), some (.int a), some (.int w), some (.ref (A (13 + 6 * t))), none]) (st' := [.int c]) (by decide +kernel) rfl ?_
  refine V.callS (As := [.int c]) (st := []) hG hF k_RX3_60 (by decide +kernel) (c_X3_checkPerson hG c) rfl ⟨by rw [hRm]; decide, by rw [hRm]; decide⟩ (Nat.le_of_ble_eq_true rfl) rfl (fun v2 h1' hp => ?_) (fun E h9 hx => VX.out hF hT ⟨Or.inl ⟨hx.1, fun q => hx.2.1 q.2.2.1⟩, hx.2.2⟩)
  obtain ⟨hv, hc, he⟩ := hp
  rw [he, hv]
  show V G F _ _ _ 18 [some (.ref (A 0)), some (.int (nI t)), some (.int d), some (.int c), some (.int a), some (.int w), some (.ref (A (13 + 6 * t))), none] [] h
  refine V.run hF [(.iload 5, 2, .null)] (pc' := 20) (L' := [some (.ref (A 0)), some (.int (nI t)), some (.int d), some (.int c), some (.int a), some (.int w), some (.ref (A (13 + 6 * t))), none]) (st' := [.int w]) (by decide +kernel) rfl ?_
  refine V.callS (As := [.int w]) (st := []) hG hF k_RX3_60 (by decide +kernel) (c_X3_checkPerson hG w) rfl ⟨by rw [hRm]; decide, by rw [hRm]; decide⟩ (Nat.le_of_ble_eq_true rfl) rfl (fun v3 h1' hp => ?_) (fun E h9 hx => VX.out hF hT ⟨Or.inl ⟨hx.1, fun q => hx.2.1 q.2.2.2⟩, hx.2.2⟩)
  obtain ⟨hv, hw, he⟩ := hp
  rw [he, hv]
  show V G F _ _ _ 23 [some (.ref (A 0)), some (.int (nI t)), some (.int d), some (.int c), some (.int a), some (.int w), some (.ref (A (13 + 6 * t))), none] [] h
  have w1 : wr1 σ (nI t) d c w := ⟨⟨t, ht, rfl⟩, hd, hc, hw⟩
  refine V.run hF [(.iload_n 2, 1, .null), (.iload_n 3, 1, .null)] (pc' := 25) (L' := [some (.ref (A 0)), some (.int (nI t)), some (.int d), some (.int c), some (.int a), some (.int w), some (.ref (A (13 + 6 * t))), none]) (st' := [.int c, .int d]) (by decide +kernel) rfl ?_
  refine V.icmp_eq hF (off := 15) (tgt := 40) (by decide +kernel) (by decide) (fun c1 => ?_) (fun c1 => ?_)
  · skip
    exact V.throwS hG hF hT kt_RX3_63 (by decide +kernel) (by decide +kernel) (by decide +kernel) (by decide +kernel) (by decide +kernel) ⟨by rw [hRm]; decide, by rw [hRm]; decide⟩ ⟨Or.inr (Or.inl ⟨rfl, w1, fun q => q.1 (Or.inl c1)⟩), rfl⟩
  · skip
    refine V.run hF [(.iload_n 2, 1, .null), (.iload 5, 2, .null)] (pc' := 31) (L' := [some (.ref (A 0)), some (.int (nI t)), some (.int d), some (.int c), some (.int a), some (.int w), some (.ref (A (13 + 6 * t))), none]) (st' := [.int w, .int d]) (by decide +kernel) rfl ?_
    refine V.icmp_eq hF (off := 9) (tgt := 40) (by decide +kernel) (by decide) (fun c2 => ?_) (fun c2 => ?_)
    · skip
      exact V.throwS hG hF hT kt_RX3_63 (by decide +kernel) (by decide +kernel) (by decide +kernel) (by decide +kernel) (by decide +kernel) ⟨by rw [hRm]; decide, by rw [hRm]; decide⟩ ⟨Or.inr (Or.inl ⟨rfl, w1, fun q => q.1 (Or.inr (Or.inl c2))⟩), rfl⟩
    · skip
      refine V.run hF [(.iload_n 3, 1, .null), (.iload 5, 2, .null)] (pc' := 37) (L' := [some (.ref (A 0)), some (.int (nI t)), some (.int d), some (.int c), some (.int a), some (.int w), some (.ref (A (13 + 6 * t))), none]) (st' := [.int w, .int c]) (by decide +kernel) rfl ?_
      refine V.icmp_ne hF (off := 13) (tgt := 50) (by decide +kernel) (by decide) (fun c3 => ?_) (fun c3 => ?_)
      · skip
        refine V.run hF [(.iload 4, 2, .null), (.iconst 1, 1, .int 1)] (pc' := 53) (L' := [some (.ref (A 0)), some (.int (nI t)), some (.int d), some (.int c), some (.int a), some (.int w), some (.ref (A (13 + 6 * t))), none]) (st' := [.int 1, .int a]) (by decide +kernel) rfl ?_
        refine V.icmp_lt hF (off := 11) (tgt := 64) (by decide +kernel) (by decide) (fun c4 => ?_) (fun c4 => ?_)
        · skip
          exact V.throwS hG hF hT kt_RX3_65 (by decide +kernel) (by decide +kernel) (by decide +kernel) (by decide +kernel) (by decide +kernel) ⟨by rw [hRm]; decide, by rw [hRm]; decide⟩ ⟨Or.inr (Or.inl ⟨rfl, w1, fun q => q.2.1 c4⟩), rfl⟩
        · skip
          refine V.run hF [(.iload 4, 2, .null), (.sipush 999, 3, .int (nI 999))] (pc' := 61) (L' := [some (.ref (A 0)), some (.int (nI t)), some (.int d), some (.int c), some (.int a), some (.int w), some (.ref (A (13 + 6 * t))), none]) (st' := [.int (nI 999), .int a]) (by decide +kernel) rfl ?_
          refine V.icmp_le hF (off := 13) (tgt := 74) (by decide +kernel) (by decide) (fun c5 => ?_) (fun c5 => ?_)
          · have w2 : wr2 d c a w := ⟨fun q => by
              rcases q with q | q | q
              · exact c1 q
              · exact c2 q
              · exact c3 q, c4, c5⟩
            refine V.run hF [(.aload 6, 2, .null)] (pc' := 76) (L' := [some (.ref (A 0)), some (.int (nI t)), some (.int d), some (.int c), some (.int a), some (.int w), some (.ref (A (13 + 6 * t))), none]) (st' := [.ref (A (13 + 6 * t))]) (by decide +kernel) rfl ?_
            refine V.getf hG hF k_RX3_67 (by decide +kernel) t2.1 rfl ?_
            refine V.run hF [(.bipush 12, 2, .int (nI 12))] (pc' := 81) (L' := [some (.ref (A 0)), some (.int (nI t)), some (.int d), some (.int c), some (.int a), some (.int w), some (.ref (A (13 + 6 * t))), none]) (st' := [.int (nI 12), .int (nI (gn σ t))]) (by decide +kernel) rfl ?_
            refine V.icmpN_lt (i := gn σ t) (j := 12) hF (off := 13) (tgt := 94) (by decide +kernel) (by decide) (by omega) (by omega) (fun c6 => ?_) (fun c6 => ?_)
            · have g0 : gn σ (nI t).toNatClampNeg < 12 := by rw [hcl]; exact c6
              refine V.run hF [(.aload_n 0, 1, .null), (.iload_n 2, 1, .null)] (pc' := 96) (L' := [some (.ref (A 0)), some (.int (nI t)), some (.int d), some (.int c), some (.int a), some (.int w), some (.ref (A (13 + 6 * t))), none]) (st' := [.int d, .ref (A 0)]) (by decide +kernel) rfl ?_
              refine V.callV (As := [.int d]) (st := []) hG hF k_RX3_74 (by decide +kernel) (c_X3_isPresent hG hC d) hA rfl rfl ⟨by rw [hRm]; decide, by rw [hRm]; decide⟩ (Nat.le_of_ble_eq_true rfl) rfl (fun v h_5 gp5 => ?_) (fun E h9 hx => hx.elim)
              obtain ⟨rfl, he_gp5⟩ := gp5
              rw [he_gp5]
              show V G F _ _ _ 99 [some (.ref (A 0)), some (.int (nI t)), some (.int d), some (.int c), some (.int a), some (.int w), some (.ref (A (13 + 6 * t))), none] [.int (tf (prs σ d))] h
              refine V.if_eq hF (off := 20) (tgt := 119) (by decide +kernel) (by decide) (fun c7 => ?_) (fun c7 => ?_)
              · skip
                exact V.throwS hG hF hT kt_RX3_78 (by decide +kernel) (by decide +kernel) (by decide +kernel) (by decide +kernel) (by decide +kernel) ⟨by rw [hRm]; decide, by rw [hRm]; decide⟩ ⟨Or.inr (Or.inr ⟨rfl, w1, w2, fun q => tf_0 c7 q.2.1⟩), rfl⟩
              · skip
                refine V.run hF [(.aload_n 0, 1, .null), (.iload_n 3, 1, .null)] (pc' := 104) (L' := [some (.ref (A 0)), some (.int (nI t)), some (.int d), some (.int c), some (.int a), some (.int w), some (.ref (A (13 + 6 * t))), none]) (st' := [.int c, .ref (A 0)]) (by decide +kernel) rfl ?_
                refine V.callV (As := [.int c]) (st := []) hG hF k_RX3_74 (by decide +kernel) (c_X3_isPresent hG hC c) hA rfl rfl ⟨by rw [hRm]; decide, by rw [hRm]; decide⟩ (Nat.le_of_ble_eq_true rfl) rfl (fun v h_6 gp6 => ?_) (fun E h9 hx => hx.elim)
                obtain ⟨rfl, he_gp6⟩ := gp6
                rw [he_gp6]
                show V G F _ _ _ 107 [some (.ref (A 0)), some (.int (nI t)), some (.int d), some (.int c), some (.int a), some (.int w), some (.ref (A (13 + 6 * t))), none] [.int (tf (prs σ c))] h
                refine V.if_eq hF (off := 12) (tgt := 119) (by decide +kernel) (by decide) (fun c8 => ?_) (fun c8 => ?_)
                · skip
                  exact V.throwS hG hF hT kt_RX3_78 (by decide +kernel) (by decide +kernel) (by decide +kernel) (by decide +kernel) (by decide +kernel) ⟨by rw [hRm]; decide, by rw [hRm]; decide⟩ ⟨Or.inr (Or.inr ⟨rfl, w1, w2, fun q => tf_0 c8 q.2.2.1⟩), rfl⟩
                · skip
                  refine V.run hF [(.aload_n 0, 1, .null), (.iload 5, 2, .null)] (pc' := 113) (L' := [some (.ref (A 0)), some (.int (nI t)), some (.int d), some (.int c), some (.int a), some (.int w), some (.ref (A (13 + 6 * t))), none]) (st' := [.int w, .ref (A 0)]) (by decide +kernel) rfl ?_
                  refine V.callV (As := [.int w]) (st := []) hG hF k_RX3_74 (by decide +kernel) (c_X3_isPresent hG hC w) hA rfl rfl ⟨by rw [hRm]; decide, by rw [hRm]; decide⟩ (Nat.le_of_ble_eq_true rfl) rfl (fun v h_7 gp7 => ?_) (fun E h9 hx => hx.elim)
                  obtain ⟨rfl, he_gp7⟩ := gp7
                  rw [he_gp7]
                  show V G F _ _ _ 116 [some (.ref (A 0)), some (.int (nI t)), some (.int d), some (.int c), some (.int a), some (.int w), some (.ref (A (13 + 6 * t))), none] [.int (tf (prs σ w))] h
                  refine V.if_ne hF (off := 13) (tgt := 129) (by decide +kernel) (by decide) (fun c9 => ?_) (fun c9 => ?_)
                  · skip
                    refine V.run hF [(.aload 6, 2, .null)] (pc' := 131) (L' := [some (.ref (A 0)), some (.int (nI t)), some (.int d), some (.int c), some (.int a), some (.int w), some (.ref (A (13 + 6 * t))), none]) (st' := [.ref (A (13 + 6 * t))]) (by decide +kernel) rfl ?_
                    refine V.getf hG hF k_RX3_67 (by decide +kernel) t2.1 rfl ?_
                    refine V.run hF [(.istore 7, 2, .null), (.aload 6, 2, .null), (.iload_n 2, 1, .null), (.iload_n 3, 1, .null), (.iload 4, 2, .null), (.iload 5, 2, .null)] (pc' := 144) (L' := [some (.ref (A 0)), some (.int (nI t)), some (.int d), some (.int c), some (.int a), some (.int w), some (.ref (A (13 + 6 * t))), some (.int (nI (gn σ t)))]) (st' := [.int w, .int a, .int c, .int d, .ref (A (13 + 6 * t))]) (by decide +kernel) rfl ?_
                    refine V.callVN (As := [.int d, .int c, .int a, .int w]) (st := []) hG hF k_RX3_80 (by decide +kernel) (c_X0_append hG t2 (hC.nd4 ht) c6 d c a w) t2.1 rfl rfl ⟨by rw [hRm]; decide, by rw [hRm]; decide⟩ (Nat.le_of_ble_eq_true rfl) rfl (fun v4 h2 hp => ?_)
                    obtain ⟨hv, hL, hk⟩ := hp
                    rw [hv]
                    obtain ⟨hC2, hk2⟩ := hC.ln ht hL (by omega) hk
                    show V G F _ _ _ 147 [some (.ref (A 0)), some (.int (nI t)), some (.int d), some (.int c), some (.int a), some (.int w), some (.ref (A (13 + 6 * t))), some (.int (nI (gn σ t)))] [] h2
                    refine V.run hF [(.iload 7, 2, .null)] (pc' := 149) (L' := [some (.ref (A 0)), some (.int (nI t)), some (.int d), some (.int c), some (.int a), some (.int w), some (.ref (A (13 + 6 * t))), some (.int (nI (gn σ t)))]) (st' := [.int (nI (gn σ t))]) (by decide +kernel) rfl ?_
                    exact V.reti hF (by decide +kernel) ⟨w1, w2, ⟨g0, tf_1 c7, tf_1 c8, tf_1 c9⟩, t, ht, rfl, rfl, hC2, hk2⟩
                  · skip
                    exact V.throwS hG hF hT kt_RX3_78 (by decide +kernel) (by decide +kernel) (by decide +kernel) (by decide +kernel) (by decide +kernel) ⟨by rw [hRm]; decide, by rw [hRm]; decide⟩ ⟨Or.inr (Or.inr ⟨rfl, w1, w2, fun q => tf_0 c9 q.2.2.2⟩), rfl⟩
            · skip
              exact V.throwS hG hF hT kt_RX3_72 (by decide +kernel) (by decide +kernel) (by decide +kernel) (by decide +kernel) (by decide +kernel) ⟨by rw [hRm]; decide, by rw [hRm]; decide⟩ ⟨Or.inr (Or.inr ⟨rfl, w1, w2, fun q => absurd c6 (by have := q.1; rw [hcl] at this; omega)⟩), rfl⟩
          · skip
            exact V.throwS hG hF hT kt_RX3_65 (by decide +kernel) (by decide +kernel) (by decide +kernel) (by decide +kernel) (by decide +kernel) ⟨by rw [hRm]; decide, by rw [hRm]; decide⟩ ⟨Or.inr (Or.inl ⟨rfl, w1, fun q => c5 q.2.2⟩), rfl⟩
      · skip
        exact V.throwS hG hF hT kt_RX3_63 (by decide +kernel) (by decide +kernel) (by decide +kernel) (by decide +kernel) (by decide +kernel) ⟨by rw [hRm]; decide, by rw [hRm]; decide⟩ ⟨Or.inr (Or.inl ⟨rfl, w1, fun q => q.1 (Or.inr (Or.inr c3))⟩), rfl⟩
end Or
end
section
/-! ===== TallyWax: pay, deny, smooth ===== -/
section Os
variable {G : Gt} {h : Hp} {A : Nat → Nat} {σ : Sg} {P : PS} {r : Nat → Int32}
def sTake (σ : Sg) (t l : Nat) : Sg := sTab σ t (gha σ t) (gce σ t) (gn σ t - 1) (shk l (gn σ t - 1 - l) (gDD σ t)) (shk l (gn σ t - 1 - l) (gC σ t)) (shk l (gn σ t - 1 - l) (gM σ t)) (shk l (gn σ t - 1 - l) (gW σ t))
def sLess (σ : Sg) (t l : Nat) (x : Int32) : Sg := sTab σ t (gha σ t) (gce σ t) (gn σ t) (gDD σ t) (gC σ t) (upd (gM σ t) l x) (gW σ t)
abbrev am (σ : Sg) (x y : Int32) : Int32 := gM σ x.toNatClampNeg y.toNatClampNeg
abbrev py2 (σ : Sg) (x y a : Int32) : Prop := ¬ a < 1 ∧ a ≤ am σ x y
def sPay (σ : Sg) (t l : Nat) (a : Int32) : Sg := if gM σ t l - a = 0 then sTake σ t l else sLess σ t l (gM σ t l - a)
set_option maxHeartbeats 8000000 in
theorem c_X3_pay (hG : GOk G) (hC : CS h A σ P r) (x y a : Int32) : Ct G yX3_pay (.code yX3_pay cX3_pay 6 (some .int)) 8 127 3 18 [.ref (A 0), .int x, .int y, .int a] h
    (fun v h' => okL σ x y ∧ py2 σ x y a ∧ ∃ t l, t < gT σ ∧ l < gn σ t ∧ x = nI t ∧ y = nI l ∧ v = some (.int (gM σ t l - a)) ∧ CS h' A (sPay σ t l a) P r ∧ kpC h h' A (12 + 6 * gT σ)) (px3 (okL σ x y) (py2 σ x y a) True h) := by
  refine Ct.of (by decide +kernel) (Nat.le_of_ble_eq_true rfl) fun F hF hT hN hRm => ?_
  obtain ⟨hI, hT8, hA, h1, h2, h3, h4, h5, h6⟩ := id hC
  refine V.run hF [(.aload_n 0, 1, .null), (.iload_n 1, 1, .null), (.iload_n 2, 1, .null)] (pc' := 3) (L' := [some (.ref (A 0)), some (.int x), some (.int y), some (.int a), none, none]) (st' := [.int y, .int x, .ref (A 0)]) (by decide +kernel) rfl ?_
  refine V.callV (As := [.int x, .int y]) (st := []) hG hF k_RX3_84 (by decide +kernel) (c_X3_linesWith hG hC x y) hA rfl rfl ⟨by rw [hRm]; decide, by rw [hRm]; decide⟩ (Nat.le_of_ble_eq_true rfl) rfl (fun v h1' hp => ?_) (fun E h9 hx => VX.out hF hT ⟨Or.inl ⟨hx.1, hx.2.1⟩, hx.2.2⟩)
  obtain ⟨⟨t, l, ht, hl, rfl, rfl, rfl⟩, he⟩ := hp
  rw [he]
  obtain ⟨t1, t2, t3⟩ := h6 t ht
  show V G F _ _ _ 6 [some (.ref (A 0)), some (.int (nI t)), some (.int (nI l)), some (.int a), none, none] [.ref (A (13 + 6 * t))] h
  have w1 : okL σ (nI t) (nI l) := ⟨t, l, ht, hl, rfl, rfl⟩
  have ea : am σ (nI t) (nI l) = gM σ t l := by
    show gM σ (nI t).toNatClampNeg (nI l).toNatClampNeg = _
    rw [nI_clamp (by omega), nI_clamp (by omega)]
  refine V.run hF [(.astore 4, 2, .null), (.iload_n 3, 1, .null), (.iconst 1, 1, .int 1)] (pc' := 10) (L' := [some (.ref (A 0)), some (.int (nI t)), some (.int (nI l)), some (.int a), some (.ref (A (13 + 6 * t))), none]) (st' := [.int 1, .int a]) (by decide +kernel) rfl ?_
  refine V.icmp_lt hF (off := 14) (tgt := 24) (by decide +kernel) (by decide) (fun c1 => ?_) (fun c1 => ?_)
  · skip
    exact V.throwS hG hF hT kt_RX3_91 (by decide +kernel) (by decide +kernel) (by decide +kernel) (by decide +kernel) (by decide +kernel) ⟨by rw [hRm]; decide, by rw [hRm]; decide⟩ ⟨Or.inr (Or.inl ⟨rfl, w1, fun q => q.1 c1⟩), rfl⟩
  · skip
    refine V.run hF [(.iload_n 3, 1, .null), (.aload 4, 2, .null)] (pc' := 16) (L' := [some (.ref (A 0)), some (.int (nI t)), some (.int (nI l)), some (.int a), some (.ref (A (13 + 6 * t))), none]) (st' := [.ref (A (13 + 6 * t)), .int a]) (by decide +kernel) rfl ?_
    refine V.getf hG hF k_RX3_88 (by decide +kernel) t2.1 rfl ?_
    refine V.run hF [(.iload_n 2, 1, .null)] (pc' := 20) (L' := [some (.ref (A 0)), some (.int (nI t)), some (.int (nI l)), some (.int a), some (.ref (A (13 + 6 * t))), none]) (st' := [.int (nI l), .ref (A (16 + 6 * t)), .int a]) (by decide +kernel) rfl ?_
    refine V.ialdN (j := l) hG hF (by decide +kernel) t2.2.2.2.1 (by omega) (by decide) ?_
    refine V.icmp_le hF (off := 13) (tgt := 34) (by decide +kernel) (by decide) (fun c2 => ?_) (fun c2 => ?_)
    · have w2 : py2 σ (nI t) (nI l) a := ⟨c1, by rw [ea]; exact c2⟩
      refine V.run hF [(.aload 4, 2, .null)] (pc' := 36) (L' := [some (.ref (A 0)), some (.int (nI t)), some (.int (nI l)), some (.int a), some (.ref (A (13 + 6 * t))), none]) (st' := [.ref (A (13 + 6 * t))]) (by decide +kernel) rfl ?_
      refine V.getf hG hF k_RX3_88 (by decide +kernel) t2.1 rfl ?_
      refine V.run hF [(.iload_n 2, 1, .null)] (pc' := 40) (L' := [some (.ref (A 0)), some (.int (nI t)), some (.int (nI l)), some (.int a), some (.ref (A (13 + 6 * t))), none]) (st' := [.int (nI l), .ref (A (16 + 6 * t))]) (by decide +kernel) rfl ?_
      refine V.ialdN (j := l) hG hF (by decide +kernel) t2.2.2.2.1 (by omega) (by decide) ?_
      refine V.run hF [(.iload_n 3, 1, .null), (.isub, 1, .null), (.istore 5, 2, .null), (.iload 5, 2, .null)] (pc' := 47) (L' := [some (.ref (A 0)), some (.int (nI t)), some (.int (nI l)), some (.int a), some (.ref (A (13 + 6 * t))), some (.int ((gM σ t) l - a))]) (st' := [.int ((gM σ t) l - a)]) (by decide +kernel) rfl ?_
      refine V.if_ne hF (off := 12) (tgt := 59) (by decide +kernel) (by decide) (fun c3 => ?_) (fun c3 => ?_)
      · skip
        refine V.run hF [(.aload 4, 2, .null)] (pc' := 61) (L' := [some (.ref (A 0)), some (.int (nI t)), some (.int (nI l)), some (.int a), some (.ref (A (13 + 6 * t))), some (.int ((gM σ t) l - a))]) (st' := [.ref (A (13 + 6 * t))]) (by decide +kernel) rfl ?_
        refine V.getf hG hF k_RX3_88 (by decide +kernel) t2.1 rfl ?_
        refine V.run hF [(.iload_n 2, 1, .null), (.iload 5, 2, .null)] (pc' := 67) (L' := [some (.ref (A 0)), some (.int (nI t)), some (.int (nI l)), some (.int a), some (.ref (A (13 + 6 * t))), some (.int ((gM σ t) l - a))]) (st' := [.int ((gM σ t) l - a), .int (nI l), .ref (A (16 + 6 * t))]) (by decide +kernel) rfl ?_
        refine V.iastN (j := l) hG hF (by decide +kernel) t2.2.2.2.1 (by omega) (by decide) ?_
        obtain ⟨h_2, gh2⟩ : ∃ z : Hp, z = hset h (A (16 + 6 * t)) (.inl (0, 12, .inl (upd (gM σ t) l ((gM σ t) l - a)))) := ⟨_, rfl⟩
        refine V.hp gh2 ?_
        have gk2 : ∀ q : Nat, q ≠ (A (16 + 6 * t)) → h_2 q = h q := fun q hq => by rw [gh2]; exact hset_ne hq
        have gs2 : h_2 (A (16 + 6 * t)) = some (.inl (0, 12, .inl (upd (gM σ t) l ((gM σ t) l - a)))) := by rw [gh2]; exact hset_eq
        refine V.run hF [(.iload 5, 2, .null)] (pc' := 70) (L' := [some (.ref (A 0)), some (.int (nI t)), some (.int (nI l)), some (.int a), some (.ref (A (13 + 6 * t))), some (.int ((gM σ t) l - a))]) (st' := [.int ((gM σ t) l - a)]) (by decide +kernel) rfl ?_
        have nw : ∀ i, 13 + 6 * t ≤ i → i < 18 + 6 * t → i ≠ 16 + 6 * t → A i ≠ A (16 + 6 * t) := fun i h1 h2 h3 => hI.ne (by omega) (by omega) h3
        have hk : kp5 h h_2 (A (13 + 6 * t)) (A (14 + 6 * t)) (A (15 + 6 * t)) (A (16 + 6 * t)) (A (17 + 6 * t)) := fun q e1 e2 e3 e4 e5 => gk2 q e4
        have hL : LLc h_2 (A (13 + 6 * t)) (A (14 + 6 * t)) (A (15 + 6 * t)) (A (16 + 6 * t)) (A (17 + 6 * t)) (gDD σ t) (gC σ t) (upd (gM σ t) l (gM σ t l - a)) (gW σ t) (gn σ t) := ⟨(gk2 _ (nw _ (by omega) (by omega) (by omega))).trans t2.1, (gk2 _ (nw _ (by omega) (by omega) (by omega))).trans t2.2.1, (gk2 _ (nw _ (by omega) (by omega) (by omega))).trans t2.2.2.1, gs2, (gk2 _ (nw _ (by omega) (by omega) (by omega))).trans t2.2.2.2.2⟩
        obtain ⟨hC2, hk2⟩ := hC.ln ht hL t3 hk
        exact V.reti hF (by decide +kernel) ⟨w1, w2, t, l, ht, hl, rfl, rfl, rfl, by rw [sPay, if_neg c3]; exact hC2, hk2⟩
      · skip
        refine V.run hF [(.aload 4, 2, .null), (.iload_n 2, 1, .null)] (pc' := 53) (L' := [some (.ref (A 0)), some (.int (nI t)), some (.int (nI l)), some (.int a), some (.ref (A (13 + 6 * t))), some (.int ((gM σ t) l - a))]) (st' := [.int (nI l), .ref (A (13 + 6 * t))]) (by decide +kernel) rfl ?_
        refine V.callVN (As := [.int (nI l)]) (st := []) hG hF k_RX3_93 (by decide +kernel) (c_X0_takeOut hG t2 (hC.nd4 ht) t3 hl) t2.1 rfl rfl ⟨by rw [hRm]; decide, by rw [hRm]; decide⟩ (Nat.le_of_ble_eq_true rfl) rfl (fun v1 h2 hp => ?_)
        obtain ⟨hv, hL, hk⟩ := hp
        rw [hv]
        obtain ⟨hC2, hk2⟩ := hC.ln ht hL (by omega) hk
        show V G F _ _ _ 56 [some (.ref (A 0)), some (.int (nI t)), some (.int (nI l)), some (.int a), some (.ref (A (13 + 6 * t))), some (.int ((gM σ t) l - a))] [] h2
        refine V.run hF [(.goto 12, 3, .null), (.iload 5, 2, .null)] (pc' := 70) (L' := [some (.ref (A 0)), some (.int (nI t)), some (.int (nI l)), some (.int a), some (.ref (A (13 + 6 * t))), some (.int ((gM σ t) l - a))]) (st' := [.int ((gM σ t) l - a)]) (by decide +kernel) rfl ?_
        exact V.reti hF (by decide +kernel) ⟨w1, w2, t, l, ht, hl, rfl, rfl, rfl, by rw [sPay, if_pos c3]; exact hC2, hk2⟩
    · skip
      exact V.throwS hG hF hT kt_RX3_91 (by decide +kernel) (by decide +kernel) (by decide +kernel) (by decide +kernel) (by decide +kernel) ⟨by rw [hRm]; decide, by rw [hRm]; decide⟩ ⟨Or.inr (Or.inl ⟨rfl, w1, fun q => c2 (by rw [← ea]; exact q.2)⟩), rfl⟩
/-- deny -/
abbrev dy2 (σ : Sg) (x y : Int32) : Prop := ¬ prs σ (gW σ x.toNatClampNeg y.toNatClampNeg) ∧ prs σ (gDD σ x.toNatClampNeg y.toNatClampNeg)
def sDeny (σ : Sg) (t l : Nat) : Sg := sYmd (sTake σ t l) (gy σ) (gme σ) (gde σ + gM σ t l)
set_option maxHeartbeats 8000000 in
theorem c_X3_deny (hG : GOk G) (hC : CS h A σ P r) (x y : Int32) : Ct G yX3_deny (.code yX3_deny cX3_deny 5 (some .int)) 8 127 4 24 [.ref (A 0), .int x, .int y] h
    (fun v h' => okL σ x y ∧ dy2 σ x y ∧ ∃ t l, t < gT σ ∧ l < gn σ t ∧ x = nI t ∧ y = nI l ∧ v = some (.int (gM σ t l)) ∧ CS h' A (sDeny σ t l) P r ∧ kpC h h' A (12 + 6 * gT σ)) (px3 (okL σ x y) True (dy2 σ x y) h) := by
  refine Ct.of (by decide +kernel) (Nat.le_of_ble_eq_true rfl) fun F hF hT hN hRm => ?_
  obtain ⟨hI, hT8, hA, h1, h2, h3, h4, h5, h6⟩ := id hC
  refine V.run hF [(.aload_n 0, 1, .null), (.iload_n 1, 1, .null), (.iload_n 2, 1, .null)] (pc' := 3) (L' := [some (.ref (A 0)), some (.int x), some (.int y), none, none]) (st' := [.int y, .int x, .ref (A 0)]) (by decide +kernel) rfl ?_
  refine V.callV (As := [.int x, .int y]) (st := []) hG hF k_RX3_84 (by decide +kernel) (c_X3_linesWith hG hC x y) hA rfl rfl ⟨by rw [hRm]; decide, by rw [hRm]; decide⟩ (Nat.le_of_ble_eq_true rfl) rfl (fun v h1' hp => ?_) (fun E h9 hx => VX.out hF hT ⟨Or.inl ⟨hx.1, hx.2.1⟩, hx.2.2⟩)
  obtain ⟨⟨t, l, ht, hl, rfl, rfl, rfl⟩, he⟩ := hp
  rw [he]
  obtain ⟨t1, t2, t3⟩ := h6 t ht
  show V G F _ _ _ 6 [some (.ref (A 0)), some (.int (nI t)), some (.int (nI l)), none, none] [.ref (A (13 + 6 * t))] h
  have w1 : okL σ (nI t) (nI l) := ⟨t, l, ht, hl, rfl, rfl⟩
  have ct : (nI t).toNatClampNeg = t := nI_clamp (by omega)
  have cl : (nI l).toNatClampNeg = l := nI_clamp (by omega)
  refine V.run hF [(.astore_n 3, 1, .null), (.aload_n 0, 1, .null), (.aload_n 3, 1, .null)] (pc' := 9) (L' := [some (.ref (A 0)), some (.int (nI t)), some (.int (nI l)), some (.ref (A (13 + 6 * t))), none]) (st' := [.ref (A (13 + 6 * t)), .ref (A 0)]) (by decide +kernel) rfl ?_
  refine V.getf hG hF k_RX3_96 (by decide +kernel) t2.1 rfl ?_
  refine V.run hF [(.iload_n 2, 1, .null)] (pc' := 13) (L' := [some (.ref (A 0)), some (.int (nI t)), some (.int (nI l)), some (.ref (A (13 + 6 * t))), none]) (st' := [.int (nI l), .ref (A (17 + 6 * t)), .ref (A 0)]) (by decide +kernel) rfl ?_
  refine V.ialdN (j := l) hG hF (by decide +kernel) t2.2.2.2.2 (by omega) (by decide) ?_
  refine V.callV (As := [.int ((gW σ t) l)]) (st := []) hG hF k_RX3_74 (by decide +kernel) (c_X3_isPresent hG hC (gW σ t l)) hA rfl rfl ⟨by rw [hRm]; decide, by rw [hRm]; decide⟩ (Nat.le_of_ble_eq_true rfl) rfl (fun v h_2 gp2 => ?_) (fun E h9 hx => hx.elim)
  obtain ⟨rfl, he_gp2⟩ := gp2
  rw [he_gp2]
  show V G F _ _ _ 17 [some (.ref (A 0)), some (.int (nI t)), some (.int (nI l)), some (.ref (A (13 + 6 * t))), none] [.int (tf (prs σ (gW σ t l)))] h
  refine V.if_eq hF (off := 13) (tgt := 30) (by decide +kernel) (by decide) (fun c1 => ?_) (fun c1 => ?_)
  · skip
    refine V.run hF [(.aload_n 0, 1, .null), (.aload_n 3, 1, .null)] (pc' := 32) (L' := [some (.ref (A 0)), some (.int (nI t)), some (.int (nI l)), some (.ref (A (13 + 6 * t))), none]) (st' := [.ref (A (13 + 6 * t)), .ref (A 0)]) (by decide +kernel) rfl ?_
    refine V.getf hG hF k_RX3_101 (by decide +kernel) t2.1 rfl ?_
    refine V.run hF [(.iload_n 2, 1, .null)] (pc' := 36) (L' := [some (.ref (A 0)), some (.int (nI t)), some (.int (nI l)), some (.ref (A (13 + 6 * t))), none]) (st' := [.int (nI l), .ref (A (14 + 6 * t)), .ref (A 0)]) (by decide +kernel) rfl ?_
    refine V.ialdN (j := l) hG hF (by decide +kernel) t2.2.1 (by omega) (by decide) ?_
    refine V.callV (As := [.int ((gDD σ t) l)]) (st := []) hG hF k_RX3_74 (by decide +kernel) (c_X3_isPresent hG hC (gDD σ t l)) hA rfl rfl ⟨by rw [hRm]; decide, by rw [hRm]; decide⟩ (Nat.le_of_ble_eq_true rfl) rfl (fun v h_3 gp3 => ?_) (fun E h9 hx => hx.elim)
    obtain ⟨rfl, he_gp3⟩ := gp3
    rw [he_gp3]
    show V G F _ _ _ 40 [some (.ref (A 0)), some (.int (nI t)), some (.int (nI l)), some (.ref (A (13 + 6 * t))), none] [.int (tf (prs σ (gDD σ t l)))] h
    refine V.if_ne hF (off := 13) (tgt := 53) (by decide +kernel) (by decide) (fun c2 => ?_) (fun c2 => ?_)
    · have w2 : dy2 σ (nI t) (nI l) := by
        rw [dy2, ct, cl]
        exact ⟨tf_0 c1, tf_1 c2⟩
      refine V.run hF [(.aload_n 3, 1, .null)] (pc' := 54) (L' := [some (.ref (A 0)), some (.int (nI t)), some (.int (nI l)), some (.ref (A (13 + 6 * t))), none]) (st' := [.ref (A (13 + 6 * t))]) (by decide +kernel) rfl ?_
      refine V.getf hG hF k_RX3_88 (by decide +kernel) t2.1 rfl ?_
      refine V.run hF [(.iload_n 2, 1, .null)] (pc' := 58) (L' := [some (.ref (A 0)), some (.int (nI t)), some (.int (nI l)), some (.ref (A (13 + 6 * t))), none]) (st' := [.int (nI l), .ref (A (16 + 6 * t))]) (by decide +kernel) rfl ?_
      refine V.ialdN (j := l) hG hF (by decide +kernel) t2.2.2.2.1 (by omega) (by decide) ?_
      refine V.run hF [(.istore 4, 2, .null), (.aload_n 3, 1, .null), (.iload_n 2, 1, .null)] (pc' := 63) (L' := [some (.ref (A 0)), some (.int (nI t)), some (.int (nI l)), some (.ref (A (13 + 6 * t))), some (.int ((gM σ t) l))]) (st' := [.int (nI l), .ref (A (13 + 6 * t))]) (by decide +kernel) rfl ?_
      refine V.callVN (As := [.int (nI l)]) (st := []) hG hF k_RX3_93 (by decide +kernel) (c_X0_takeOut hG t2 (hC.nd4 ht) t3 hl) t2.1 rfl rfl ⟨by rw [hRm]; decide, by rw [hRm]; decide⟩ (Nat.le_of_ble_eq_true rfl) rfl (fun v1 h2 hp => ?_)
      obtain ⟨hv, hL, hk⟩ := hp
      rw [hv]
      obtain ⟨hC2, hk2⟩ := hC.ln ht hL (by omega) hk
      obtain ⟨-, -, hA2, -⟩ := id hC2
      have hA2 : h2 (A 0) = some (.inr (3, [.ref (A 1), .ref (A 2), .ref (A 3), .ref (A 4), .ref (A 5), .int (nI (gT σ)), .int (nI (gy σ)), .int (gme σ), .int (gde σ)])) := hA2
      show V G F _ _ _ 66 [some (.ref (A 0)), some (.int (nI t)), some (.int (nI l)), some (.ref (A (13 + 6 * t))), some (.int ((gM σ t) l))] [] h2
      refine V.run hF [(.aload_n 0, 1, .null), (.dup, 1, .null)] (pc' := 68) (L' := [some (.ref (A 0)), some (.int (nI t)), some (.int (nI l)), some (.ref (A (13 + 6 * t))), some (.int ((gM σ t) l))]) (st' := [.ref (A 0), .ref (A 0)]) (by decide +kernel) rfl ?_
      refine V.getf hG hF k_RX3_106 (by decide +kernel) hA2 rfl ?_
      refine V.run hF [(.iload 4, 2, .null), (.iadd, 1, .null)] (pc' := 74) (L' := [some (.ref (A 0)), some (.int (nI t)), some (.int (nI l)), some (.ref (A (13 + 6 * t))), some (.int ((gM σ t) l))]) (st' := [.int (gde σ + (gM σ t) l), .ref (A 0)]) (by decide +kernel) rfl ?_
      refine V.putf hG hF k_RX3_106 (by decide +kernel) hA2 (fun C T N hc => by cases hc; exact ⟨rfl, .int, by decide +kernel, rfl, rfl⟩) (Nat.le_of_ble_eq_true rfl) ?_
      obtain ⟨h_5, gh5⟩ : ∃ z : Hp, z = hset h2 (A 0) (.inr (3, [.ref (A 1), .ref (A 2), .ref (A 3), .ref (A 4), .ref (A 5), .int (nI (gT σ)), .int (nI (gy σ)), .int (gme σ), .int (gde σ + (gM σ t) l)])) := ⟨_, rfl⟩
      refine V.hp gh5 ?_
      have gk5 : ∀ q : Nat, q ≠ (A 0) → h_5 q = h2 q := fun q hq => by rw [gh5]; exact hset_ne hq
      have gs5 : h_5 (A 0) = some (.inr (3, [.ref (A 1), .ref (A 2), .ref (A 3), .ref (A 4), .ref (A 5), .int (nI (gT σ)), .int (nI (gy σ)), .int (gme σ), .int (gde σ + (gM σ t) l)])) := by rw [gh5]; exact hset_eq
      refine V.run hF [(.iload 4, 2, .null)] (pc' := 79) (L' := [some (.ref (A 0)), some (.int (nI t)), some (.int (nI l)), some (.ref (A (13 + 6 * t))), some (.int ((gM σ t) l))]) (st' := [.int ((gM σ t) l)]) (by decide +kernel) rfl ?_
      have hC3 := hC2.ymd (y := gy σ) (me := gme σ) (de := gde σ + gM σ t l) gs5 (fun q hq => gk5 q hq)
      exact V.reti hF (by decide +kernel) ⟨w1, w2, t, l, ht, hl, rfl, rfl, rfl, hC3, hk2.tr (kpC.one (i := 0) (by omega) (fun q hq => gk5 q hq))⟩
    · skip
      exact V.throwS hG hF hT kt_RX3_104 (by decide +kernel) (by decide +kernel) (by decide +kernel) (by decide +kernel) (by decide +kernel) ⟨by rw [hRm]; decide, by rw [hRm]; decide⟩ ⟨Or.inr (Or.inr ⟨rfl, w1, trivial, fun q => by rw [dy2, ct, cl] at q; exact tf_0 c2 q.2⟩), rfl⟩
  · skip
    exact V.throwS hG hF hT kt_RX3_99 (by decide +kernel) (by decide +kernel) (by decide +kernel) (by decide +kernel) (by decide +kernel) ⟨by rw [hRm]; decide, by rw [hRm]; decide⟩ ⟨Or.inr (Or.inr ⟨rfl, w1, trivial, fun q => by rw [dy2, ct, cl] at q; exact q.1 (tf_1 c1)⟩), rfl⟩
end Os
end
section
/-! ===== TallyWax: smooth ===== -/
section Ot
variable {G : Gt} {h : Hp} {A : Nat → Nat} {σ : Sg} {P : PS} {r : Nat → Int32}
def smP (σ : Sg) (P : PS) (t : Nat) : PS := (pl (gth σ) 8 (pl0 (gDD σ t) (gC σ t) (gM σ t) (gn σ t) P)).2
def sSm (σ : Sg) (P : PS) (t : Nat) : Sg := sTab σ t (gha σ t) (gce σ t) (pn (smP σ P t)) (mxk (pn (smP σ P t)) (pD (smP σ P t)) (gDD σ t)) (mxk (pn (smP σ P t)) (pC (smP σ P t)) (gC σ t)) (mxk (pn (smP σ P t)) (pM (smP σ P t)) (gM σ t)) (mxk (pn (smP σ P t)) (pW (smP σ P t)) (gW σ t))
theorem CS.dj5 (hC : CS h A σ P r) {t : Nat} (ht : t < gT σ) : dj5 (A 7) (A 8) (A 9) (A 10) (A 11) (A (13 + 6 * t)) (A (14 + 6 * t)) (A (15 + 6 * t)) (A (16 + 6 * t)) (A (17 + 6 * t)) := by
  intro x hx y hy
  simp only [List.mem_cons, List.not_mem_nil, or_false] at hx hy
  rcases hx with rfl | rfl | rfl | rfl | rfl <;> rcases hy with rfl | rfl | rfl | rfl | rfl <;> exact hC.1.ne (by omega) (by omega) (by omega)
set_option maxHeartbeats 8000000 in
theorem c_X3_smooth (hG : GOk G) (hC : CS h A σ P r) (x : Int32) : Ct G yX3_smooth (.code yX3_smooth cX3_smooth 3 (some .int)) 7 104 2 12 [.ref (A 0), .int x] h
    (fun v h' => ∃ t, t < gT σ ∧ x = nI t ∧ (pr (gth σ) 8 (gbal σ t)).1 = true ∧ v = some (.int (nI (pn (smP σ P t)))) ∧ CS h' A (sSm σ P t) (smP σ P t) r ∧ kpC h h' A (12 + 6 * gT σ))
    (fun E h' => (E = eI ∧ ¬ okT σ x ∧ h' = h) ∨ (E = eS ∧ ∃ t, t < gT σ ∧ x = nI t ∧ ¬ (pr (gth σ) 8 (gbal σ t)).1 = true ∧ CS h' A σ (smP σ P t) r ∧ kpC h h' A (12 + 6 * gT σ))) := by
  refine Ct.of (by decide +kernel) (Nat.le_of_ble_eq_true rfl) fun F hF hT hN hRm => ?_
  obtain ⟨hI, hT8, hA, h1, h2, h3, h4, h5, h6⟩ := id hC
  refine V.run hF [(.aload_n 0, 1, .null), (.iload_n 1, 1, .null)] (pc' := 2) (L' := [some (.ref (A 0)), some (.int x), none]) (st' := [.int x, .ref (A 0)]) (by decide +kernel) rfl ?_
  refine V.callV (As := [.int x]) (st := []) hG hF k_RX3_52 (by decide +kernel) (c_X3_tabletAt hG hC x) hA rfl rfl ⟨by rw [hRm]; decide, by rw [hRm]; decide⟩ (Nat.le_of_ble_eq_true rfl) rfl (fun v h1' hp => ?_) (fun E h9 hx => VX.out hF hT (Or.inl ⟨hx.1, okT_no hT8 hx.2.1, hx.2.2⟩))
  obtain ⟨⟨t, ht, rfl, rfl⟩, he⟩ := hp
  rw [he]
  obtain ⟨t1, t2, t3⟩ := h6 t ht
  show V G F _ _ _ 5 [some (.ref (A 0)), some (.int (nI t)), none] [.ref (A (12 + 6 * t))] h
  refine V.getf hG hF k_RX3_56 (by decide +kernel) t1 rfl ?_
  refine V.run hF [(.astore_n 2, 1, .null), (.aload_n 0, 1, .null)] (pc' := 10) (L' := [some (.ref (A 0)), some (.int (nI t)), some (.ref (A (13 + 6 * t)))]) (st' := [.ref (A 0)]) (by decide +kernel) rfl ?_
  refine V.getf hG hF k_RX3_26 (by decide +kernel) hA rfl ?_
  refine V.run hF [(.aload_n 2, 1, .null), (.aload_n 0, 1, .null)] (pc' := 15) (L' := [some (.ref (A 0)), some (.int (nI t)), some (.ref (A (13 + 6 * t)))]) (st' := [.ref (A 0), .ref (A (13 + 6 * t)), .ref (A 4)]) (by decide +kernel) rfl ?_
  refine V.getf hG hF k_RX3_9 (by decide +kernel) hA rfl ?_
  refine V.callVN (As := [.ref (A (13 + 6 * t)), .ref (A 1)]) (st := []) hG hF k_RX3_109 (by decide +kernel) (c_X1_plan hG h4 hC.nd6 t2 t3 h1 (hC.dj6 ht)) h4.1 rfl rfl ⟨by rw [hRm]; decide, by rw [hRm]; decide⟩ (Nat.le_of_ble_eq_true rfl) rfl (fun v h2 hp => ?_)
  obtain ⟨rfl, hS, hk⟩ := hp
  obtain ⟨e1, e2⟩ := pl_pr (th := gth σ) 8 (pl0 (gDD σ t) (gC σ t) (gM σ t) (gn σ t) P)
  rw [e1]
  have hS : SMc h2 (A 4) (A 6) (A 7) (A 8) (A 9) (A 10) (A 11) (smP σ P t) := hS
  have hC2 := hC.sm hS hk
  have hkC : kpC h h2 A (12 + 6 * gT σ) := kpC.k6 (by omega) hk
  obtain ⟨-, -, hA2, -, -, -, h42, -, h62⟩ := id hC2
  have e3 : pn (smP σ P t) = (pr (gth σ) 8 (gbal σ t)).2 := e2.trans (Nat.zero_add _)
  have hn12 : pn (smP σ P t) ≤ 12 := by
    have := pr_le (th := gth σ) 8 (gbal σ t)
    omega
  show V G F _ _ _ 21 [some (.ref (A 0)), some (.int (nI t)), some (.ref (A (13 + 6 * t)))] [.int (tf ((pr (gth σ) 8 (gbal σ t)).1 = true))] h2
  refine V.if_ne hF (off := 13) (tgt := 34) (by decide +kernel) (by decide) (fun c1 => ?_) (fun c1 => ?_)
  · skip
    refine V.run hF [(.aload_n 2, 1, .null), (.aload_n 0, 1, .null)] (pc' := 36) (L' := [some (.ref (A 0)), some (.int (nI t)), some (.ref (A (13 + 6 * t)))]) (st' := [.ref (A 0), .ref (A (13 + 6 * t))]) (by decide +kernel) rfl ?_
    refine V.getf hG hF k_RX3_26 (by decide +kernel) hA2 rfl ?_
    refine V.getf hG hF k_RX3_115 (by decide +kernel) h42.1 rfl ?_
    refine V.callVN (As := [.ref (A 7)]) (st := []) hG hF k_RX3_118 (by decide +kernel) (c_X0_become hG (h62 t ht).2.1 (hC.nd4 ht) h42.2.2 (hC.dj5 ht) hn12) (h62 t ht).2.1.1 rfl rfl ⟨by rw [hRm]; decide, by rw [hRm]; decide⟩ (Nat.le_of_ble_eq_true rfl) rfl (fun v1 h3 hp => ?_)
    obtain ⟨hv, hL, hk3⟩ := hp
    rw [hv]
    obtain ⟨hC3, hk4⟩ := hC2.ln ht hL hn12 hk3
    show V G F _ _ _ 45 [some (.ref (A 0)), some (.int (nI t)), some (.ref (A (13 + 6 * t)))] [] h3
    refine V.run hF [(.aload_n 2, 1, .null)] (pc' := 46) (L' := [some (.ref (A 0)), some (.int (nI t)), some (.ref (A (13 + 6 * t)))]) (st' := [.ref (A (13 + 6 * t))]) (by decide +kernel) rfl ?_
    refine V.getf hG hF k_RX3_67 (by decide +kernel) hL.1 rfl ?_
    exact V.reti hF (by decide +kernel) ⟨t, ht, rfl, tf_1 c1, rfl, hC3, hkC.tr hk4⟩
  · skip
    exact V.throwS hG hF hT kt_RX3_113 (by decide +kernel) (by decide +kernel) (by decide +kernel) (by decide +kernel) (by decide +kernel) ⟨by rw [hRm]; decide, by rw [hRm]; decide⟩ (Or.inr ⟨rfl, t, ht, rfl, tf_0 c1, hC2, hkC⟩)
end Ot
end
section
/-! ===== TallyWax: meanAmount ===== -/
theorem mask63 (x : UInt64) : (x &&& 0x7fffffffffffffff).toNat = x.toNat % 2 ^ 63 := by
  show (x.toBitVec &&& (0x7fffffffffffffff : UInt64).toBitVec).toNat = _
  rw [BitVec.toNat_and]
  exact Nat.and_two_pow_sub_one_eq_mod x.toNat 63
theorem dv_n64 (a b : Int32) (hb : b ≠ 0) : vf_n64 (FP.ddiv (FP.i2d a) (FP.i2d b)) := by
  have h1 := FP.Core.i2d_mag a
  have h2 := (FP.Core.i2d_big (v := b) (fun q => hb (Int32.toInt_inj.mp (q.trans Int32.toInt_zero.symm)))).1
  have h3 := FP.Core.ddiv_mag (K := 1056) (L := 1023) h1 h2 (FP.Core.i2d_big (v := b) (fun q => hb (Int32.toInt_inj.mp (q.trans Int32.toInt_zero.symm)))).2 (by decide) (by decide)
  show FP.ddiv (FP.i2d a) (FP.i2d b) &&& 0x7fffffffffffffff ≤ 0x7ff0000000000000
  rw [UInt64.le_iff_toNat_le, mask63]
  show (FP.Core.ddiv (FP.Core.i2d a) (FP.Core.i2d b)).toNat % 2 ^ 63 ≤ 9218868437227405312
  omega
section Ou
variable {G : Gt} {h : Hp} {A : Nat → Nat} {σ : Sg} {P : PS} {r : Nat → Int32}
/-- the mean, from the number of lines and their sum -/
def mn (n s : Int32) : UInt64 := if n = 0 then 0 else FP.ddiv (FP.i2d s) (FP.i2d n)
set_option maxHeartbeats 4000000 in
theorem c_X3_meanAmount (hG : GOk G) (hC : CS h A σ P r) : Ct G yX3_meanAmount (.code yX3_meanAmount cX3_meanAmount 2 (some .double)) 2 47 0 0 [.ref (A 0)] h (fun v h' => v = some (.double (mn (gLn σ (gT σ)) (gTo σ (gT σ)))) ∧ h' = h) pxN := by
  refine Ct.of (by decide +kernel) (Nat.le_of_ble_eq_true rfl) fun F hF hT hN hRm => ?_
  refine V.run hF [(.aload_n 0, 1, .null)] (pc' := 1) (L' := [some (.ref (A 0)), none]) (st' := [.ref (A 0)]) (by decide +kernel) rfl ?_
  refine V.callV (As := []) (st := []) hG hF k_RX3_186 (by decide +kernel) (c_X3_lines hG hC) hC.2.2.1 rfl rfl ⟨by rw [hRm]; decide, by rw [hRm]; decide⟩ (Nat.le_of_ble_eq_true rfl) rfl (fun v h_1 gp1 => ?_) (fun E h9 hx => hx.elim)
  obtain ⟨rfl, he_gp1⟩ := gp1
  rw [he_gp1]
  show V G F _ _ _ 4 [some (.ref (A 0)), none] [.int (gLn σ (gT σ))] h
  refine V.run hF [(.istore_n 1, 1, .null), (.iload_n 1, 1, .null)] (pc' := 6) (L' := [some (.ref (A 0)), some (.int (gLn σ (gT σ)))]) (st' := [.int (gLn σ (gT σ))]) (by decide +kernel) rfl ?_
  refine V.if_ne hF (off := 5) (tgt := 11) (by decide +kernel) (by decide) (fun c1 => ?_) (fun c1 => ?_)
  · skip
    refine V.run hF [(.aload_n 0, 1, .null)] (pc' := 12) (L' := [some (.ref (A 0)), some (.int (gLn σ (gT σ)))]) (st' := [.ref (A 0)]) (by decide +kernel) rfl ?_
    refine V.callV (As := []) (st := []) hG hF k_RX3_188 (by decide +kernel) (c_X3_total hG hC) hC.2.2.1 rfl rfl ⟨by rw [hRm]; decide, by rw [hRm]; decide⟩ (Nat.le_of_ble_eq_true rfl) rfl (fun v h_2 gp2 => ?_) (fun E h9 hx => hx.elim)
    obtain ⟨rfl, he_gp2⟩ := gp2
    rw [he_gp2]
    show V G F _ _ _ 15 [some (.ref (A 0)), some (.int (gLn σ (gT σ)))] [.int (gTo σ (gT σ))] h
    refine V.run hF [(.i2d, 1, .null), (.iload_n 1, 1, .null), (.i2d, 1, .null)] (pc' := 18) (L' := [some (.ref (A 0)), some (.int (gLn σ (gT σ)))]) (st' := [.double (FP.i2d (gLn σ (gT σ))), .double (FP.i2d (gTo σ (gT σ)))]) (by decide +kernel) rfl ?_
    refine V.ddiv hF (by decide +kernel) (dv_n64 _ _ c1) ?_
    exact V.retd hF (by decide +kernel) ⟨by rw [mn, if_neg c1], rfl⟩
  · skip
    refine V.dconst0 hF (by decide +kernel) ?_
    exact V.retd hF (by decide +kernel) ⟨by rw [mn, if_pos c1], rfl⟩
end Ou
end
section
/-! ===== the constructors ===== -/
def PS0 : PS := (fun _ => 0, fun _ => 0, fun _ => 0, fun _ => 0, fun _ => 0, 0)
section Ix
variable {G : Gt} {h : Hp} {a : Nat}
set_option maxHeartbeats 4000000 in
theorem c_X1_init (hG : GOk G) (hA : h a = some (.inr (1, [.null, .null]))) :
    Ct G yX1_init (.code yX1_init cX1_init 1 none) 2 32 6 61 [.ref a] h (is_v fun h' => ∃ ba nl d c m w, SMc h' a ba nl d c m w PS0 ∧ nd6 ba nl d c m w ∧ (h ba = none ∧ h nl = none ∧ h d = none ∧ h c = none ∧ h m = none ∧ h w = none) ∧ ba ≠ nl ∧ nd5 nl d c m w ∧ (∀ q, q ≠ a → q ≠ ba → q ≠ nl → q ≠ d → q ≠ c → q ≠ m → q ≠ w → h' q = h q)) pxN := by
  refine Ct.of (by decide +kernel) (Nat.le_of_ble_eq_true rfl) fun F hF hT hN hRm => ?_
  refine V.run hF [(.aload_n 0, 1, .null)] (pc' := 1) (L' := [some (.ref a)]) (st' := [.ref a]) (by decide +kernel) rfl ?_
  refine V.objInit hG hF tw_29 tw_oi1 tw_oi2 (by decide +kernel) ⟨by rw [hRm]; decide, by rw [hRm]; decide⟩ ?_
  refine V.run hF [(.aload_n 0, 1, .null), (.bipush 8, 2, .int (nI 8))] (pc' := 7) (L' := [some (.ref a)]) (st' := [.int (nI 8), .ref a]) (by decide +kernel) rfl ?_
  refine V.newa (aty := .int) (t := 0) (N := 8) (a0 := (8, .inl (fun _ => 0))) hG hF (by decide) rfl tw_arr_0.1 (by decide +kernel) (by decide) (by decide) (by decide) (fun _ => rfl) (fun b hq_b => ?_)
  have ne_a_b : a ≠ b := ne_new hA hq_b
  obtain ⟨h_1, gh1⟩ : ∃ z : Hp, z = hset h b (.inl (0, 8, .inl (fun _ => 0))) := ⟨_, rfl⟩
  refine V.hp gh1 ?_
  have gk1 : ∀ q : Nat, q ≠ b → h_1 q = h q := fun q hq => by rw [gh1]; exact hset_ne hq
  have gs1 : h_1 b = some (.inl (0, 8, .inl (fun _ => 0))) := by rw [gh1]; exact hset_eq
  have kb := gk1
  have gf2 : h_1 a = some (.inr (1, [.null, .null])) := (gk1 a (by first | assumption | exact Ne.symm (by assumption) | omega)).trans hA
  refine V.putF hG hF ko_RX1_9 hN (by decide +kernel) gf2 (fun C T N hc => by cases hc; exact ⟨rfl, rfl, (.array .int), by decide +kernel, rfl, rfl⟩) (Nat.le_of_ble_eq_true rfl) ?_
  obtain ⟨h_3, gh3⟩ : ∃ z : Hp, z = hset h_1 a (.inr (1, [.ref b, .null])) := ⟨_, rfl⟩
  refine V.hp gh3 ?_
  have gk3 : ∀ q : Nat, q ≠ a → h_3 q = h_1 q := fun q hq => by rw [gh3]; exact hset_ne hq
  have gs3 : h_3 a = some (.inr (1, [.ref b, .null])) := by rw [gh3]; exact hset_eq
  refine V.run hF [(.aload_n 0, 1, .null)] (pc' := 13) (L' := [some (.ref a)]) (st' := [.ref a]) (by decide +kernel) rfl ?_
  have kb2 := gk3
  have gf4 : h_3 b = some (.inl (0, 8, .inl (fun _ => 0))) := (gk3 b (by first | assumption | exact Ne.symm (by assumption) | omega)).trans gs1
  refine V.new hG hF k_RX1_15 (by decide +kernel) (fun l hq_l => ?_)
  have ne_a_l : a ≠ l := ne_new gs3 hq_l
  have ne_b_l : b ≠ l := ne_new gf4 hq_l
  obtain ⟨h_5, gh5⟩ : ∃ z : Hp, z = hset h_3 l (.inr (0, [.null, .null, .null, .null, .int 0])) := ⟨_, rfl⟩
  refine V.hp gh5 ?_
  have gk5 : ∀ q : Nat, q ≠ l → h_5 q = h_3 q := fun q hq => by rw [gh5]; exact hset_ne hq
  have gs5 : h_5 l = some (.inr (0, [.null, .null, .null, .null, .int 0])) := by rw [gh5]; exact hset_eq
  have kl := gk5
  refine V.run hF [(.dup, 1, .null)] (pc' := 17) (L' := [some (.ref a)]) (st' := [.ref l, .ref l, .ref a]) (by decide +kernel) rfl ?_
  have gf6 : h_5 a = some (.inr (1, [.ref b, .null])) := (gk5 a (by first | assumption | exact Ne.symm (by assumption) | omega)).trans gs3
  have hA1 := gf6
  have gf7 : h_5 b = some (.inl (0, 8, .inl (fun _ => 0))) := (gk5 b (by first | assumption | exact Ne.symm (by assumption) | omega)).trans gf4
  have hb1 := gf7
  refine V.callI (As := []) (st := [.ref l, .ref a]) hG hF k_RX1_17 (by decide +kernel) (c_X0_init hG gs5) rfl ⟨by rw [hRm]; decide, by rw [hRm]; decide⟩ (Nat.le_of_ble_eq_true rfl) rfl (fun v h_8 gp8 => ?_)
  obtain ⟨rfl, d, c, m, w, hLL, hnd, ⟨f1, f2, f3, f4⟩, hk2⟩ := gp8
  show V G F _ _ _ 20 [some (.ref a)] [.ref l, .ref a] h_8
  have na : a ≠ d ∧ a ≠ c ∧ a ≠ m ∧ a ≠ w := ⟨ne_new hA1 f1, ne_new hA1 f2, ne_new hA1 f3, ne_new hA1 f4⟩
  have nb : b ≠ d ∧ b ≠ c ∧ b ≠ m ∧ b ≠ w := ⟨ne_new hb1 f1, ne_new hb1 f2, ne_new hb1 f3, ne_new hb1 f4⟩
  have hA2 := (hk2 a ne_a_l na.1 na.2.1 na.2.2.1 na.2.2.2).trans hA1
  have hb2 := (hk2 b ne_b_l nb.1 nb.2.1 nb.2.2.1 nb.2.2.2).trans hb1
  have hll := hLL.nd hnd
  refine V.putF hG hF ko_RX1_18 hN (by decide +kernel) hA2 (fun C T N hc => by cases hc; exact ⟨rfl, rfl, (.object "TallyWax$LineList"), by decide +kernel, rfl, rfl⟩) (Nat.le_of_ble_eq_true rfl) ?_
  obtain ⟨h_9, gh9⟩ : ∃ z : Hp, z = hset h_8 a (.inr (1, [.ref b, .ref l])) := ⟨_, rfl⟩
  refine V.hp gh9 ?_
  have gk9 : ∀ q : Nat, q ≠ a → h_9 q = h_8 q := fun q hq => by rw [gh9]; exact hset_ne hq
  have gs9 : h_9 a = some (.inr (1, [.ref b, .ref l])) := by rw [gh9]; exact hset_eq
  obtain ⟨g1, g2, g3, g4, g5⟩ := hLL
  have up : ∀ q, q ≠ l → q ≠ a → q ≠ b → h_5 q = none → h q = none := fun q e1 e2 e3 e4 => by rw [← kb q e3, ← kb2 q e2, ← kl q e1]; exact e4
  have hl0 : h l = none := by rw [← kb l (Ne.symm ne_b_l), ← kb2 l (Ne.symm ne_a_l)]; exact hq_l
  exact V.retv hF (by decide +kernel) ⟨rfl, b, l, d, c, m, w, ⟨gs9, (gk9 _ (Ne.symm ne_a_b)).trans hb2, (gk9 _ (Ne.symm ne_a_l)).trans g1, (gk9 _ (Ne.symm na.1)).trans g2, (gk9 _ (Ne.symm na.2.1)).trans g3, (gk9 _ (Ne.symm na.2.2.1)).trans g4, (gk9 _ (Ne.symm na.2.2.2)).trans g5⟩, ⟨⟨ne_b_l, nb⟩, hnd⟩, ⟨hq_b, hl0, up d (Ne.symm hll.1.1) (Ne.symm na.1) (Ne.symm nb.1) f1, up c (Ne.symm hll.1.2.1) (Ne.symm na.2.1) (Ne.symm nb.2.1) f2, up m (Ne.symm hll.1.2.2.1) (Ne.symm na.2.2.1) (Ne.symm nb.2.2.1) f3, up w (Ne.symm hll.1.2.2.2) (Ne.symm na.2.2.2) (Ne.symm nb.2.2.2) f4⟩, ne_b_l, hll, fun q e1 e2 e3 e4 e5 e6 e7 => (gk9 q e1).trans ((hk2 q e3 e4 e5 e6 e7).trans ((kl q e3).trans ((kb2 q e1).trans (kb q e2))))⟩
end Ix
def S0 : Sg := (mxk 8 (fun _ => 1) (fun _ => 0), 0, fun _ => 0, fun _ => 0, fun _ => 0, (fun _ _ => 0, fun _ _ => 0, fun _ _ => 0, fun _ _ => 0), fun _ => 0, 0, 0, 0)
def li12 (L : List Nat) : Nat → Nat := fun i => (L[i]?).getD 0
theorem li_inj {L : List Nat} (h : L.Nodup) : Inj (li12 L) L.length := fun i j hi hj e => by
  unfold li12 at e
  rw [List.getElem?_eq_getElem hi, List.getElem?_eq_getElem hj] at e
  have h := List.pairwise_iff_getElem.mp h
  rcases Nat.lt_trichotomy i j with q | q | q
  · exact absurd e (h i j hi hj q)
  · exact q
  · exact absurd e.symm (h j i hj hi q)
section Iy
variable {G : Gt} {h : Hp} {a : Nat}
set_option maxHeartbeats 8000000 in
theorem c_X3_init (hG : GOk G) (hA : h a = some (.inr (3, [.null, .null, .null, .null, .null, .int 0, .int 0, .int 0, .int 0]))) :
    Ct G yX3_init (.code yX3_init cX3_init 2 none) 3 53 11 97 [.ref a] h (is_v fun h' => ∃ A : Nat → Nat, A 0 = a ∧ CS h' A S0 PS0 (fun _ => 0) ∧ (∀ i, 0 < i → i < 12 → h (A i) = none) ∧ kpC h h' A 12) pxN := by
  refine Ct.of (by decide +kernel) (Nat.le_of_ble_eq_true rfl) fun F hF hT hN hRm => ?_
  refine V.run hF [(.aload_n 0, 1, .null)] (pc' := 1) (L' := [some (.ref a), none]) (st' := [.ref a]) (by decide +kernel) rfl ?_
  refine V.objInit hG hF tw_19 tw_oi1 tw_oi2 (by decide +kernel) ⟨by rw [hRm]; decide, by rw [hRm]; decide⟩ ?_
  refine V.run hF [(.aload_n 0, 1, .null), (.bipush 8, 2, .int (nI 8))] (pc' := 7) (L' := [some (.ref a), none]) (st' := [.int (nI 8), .ref a]) (by decide +kernel) rfl ?_
  refine V.newa (aty := .boolean) (t := 1) (N := 8) (a0 := (8, .inl (fun _ => 0))) hG hF (by decide) rfl tw_arr_1.1 (by decide +kernel) (by decide) (by decide) (by decide) (fun _ => rfl) (fun b hq_b => ?_)
  have ne_a_b : a ≠ b := ne_new hA hq_b
  obtain ⟨h_1, gh1⟩ : ∃ z : Hp, z = hset h b (.inl (1, 8, .inl (fun _ => 0))) := ⟨_, rfl⟩
  refine V.hp gh1 ?_
  have gk1 : ∀ q : Nat, q ≠ b → h_1 q = h q := fun q hq => by rw [gh1]; exact hset_ne hq
  have gs1 : h_1 b = some (.inl (1, 8, .inl (fun _ => 0))) := by rw [gh1]; exact hset_eq
  have k1 := gk1
  have gf2 : h_1 a = some (.inr (3, [.null, .null, .null, .null, .null, .int 0, .int 0, .int 0, .int 0])) := (gk1 a (by first | assumption | exact Ne.symm (by assumption) | omega)).trans hA
  refine V.putF hG hF ko_RX3_9 hN (by decide +kernel) gf2 (fun C T N hc => by cases hc; exact ⟨rfl, rfl, (.array .boolean), by decide +kernel, rfl, rfl⟩) (Nat.le_of_ble_eq_true rfl) ?_
  obtain ⟨h_3, gh3⟩ : ∃ z : Hp, z = hset h_1 a (.inr (3, [.ref b, .null, .null, .null, .null, .int 0, .int 0, .int 0, .int 0])) := ⟨_, rfl⟩
  refine V.hp gh3 ?_
  have gk3 : ∀ q : Nat, q ≠ a → h_3 q = h_1 q := fun q hq => by rw [gh3]; exact hset_ne hq
  have gs3 : h_3 a = some (.inr (3, [.ref b, .null, .null, .null, .null, .int 0, .int 0, .int 0, .int 0])) := by rw [gh3]; exact hset_eq
  refine V.run hF [(.aload_n 0, 1, .null), (.bipush 8, 2, .int (nI 8))] (pc' := 15) (L' := [some (.ref a), none]) (st' := [.int (nI 8), .ref a]) (by decide +kernel) rfl ?_
  have k2 := gk3
  have gf4 : h_3 b = some (.inl (1, 8, .inl (fun _ => 0))) := (gk3 b (by first | assumption | exact Ne.symm (by assumption) | omega)).trans gs1
  refine V.newq (N := 8) hG hF tw_22.1 tw_over (by decide +kernel) (by decide) (by decide) (by decide) (fun s hq_s => ?_)
  have ne_a_s : a ≠ s := ne_new gs3 hq_s
  have ne_b_s : b ≠ s := ne_new gf4 hq_s
  obtain ⟨h_5, gh5⟩ : ∃ z : Hp, z = hset h_3 s (.inl (3, 8, .inr (.inr (.inr (.inr (fun _ => none)))))) := ⟨_, rfl⟩
  refine V.hp gh5 ?_
  have gk5 : ∀ q : Nat, q ≠ s → h_5 q = h_3 q := fun q hq => by rw [gh5]; exact hset_ne hq
  have gs5 : h_5 s = some (.inl (3, 8, .inr (.inr (.inr (.inr (fun _ => none)))))) := by rw [gh5]; exact hset_eq
  have k3 := gk5
  have gf6 : h_5 a = some (.inr (3, [.ref b, .null, .null, .null, .null, .int 0, .int 0, .int 0, .int 0])) := (gk5 a (by first | assumption | exact Ne.symm (by assumption) | omega)).trans gs3
  refine V.putF hG hF ko_RX3_15 hN (by decide +kernel) gf6 (fun C T N hc => by cases hc; exact ⟨rfl, rfl, (.array (.object "TallyWax$Tablet")), by decide +kernel, rfl, rfl⟩) (Nat.le_of_ble_eq_true rfl) ?_
  obtain ⟨h_7, gh7⟩ : ∃ z : Hp, z = hset h_5 a (.inr (3, [.ref b, .ref s, .null, .null, .null, .int 0, .int 0, .int 0, .int 0])) := ⟨_, rfl⟩
  refine V.hp gh7 ?_
  have gk7 : ∀ q : Nat, q ≠ a → h_7 q = h_5 q := fun q hq => by rw [gh7]; exact hset_ne hq
  have gs7 : h_7 a = some (.inr (3, [.ref b, .ref s, .null, .null, .null, .int 0, .int 0, .int 0, .int 0])) := by rw [gh7]; exact hset_eq
  refine V.run hF [(.aload_n 0, 1, .null), (.bipush 10, 2, .int (nI 10))] (pc' := 24) (L' := [some (.ref a), none]) (st' := [.int (nI 10), .ref a]) (by decide +kernel) rfl ?_
  have k4 := gk7
  have gf8 : h_7 b = some (.inl (1, 8, .inl (fun _ => 0))) := (gk7 b (by first | assumption | exact Ne.symm (by assumption) | omega)).trans ((gk5 b (by first | assumption | exact Ne.symm (by assumption) | omega)).trans gf4)
  have gf9 : h_7 s = some (.inl (3, 8, .inr (.inr (.inr (.inr (fun _ => none)))))) := (gk7 s (by first | assumption | exact Ne.symm (by assumption) | omega)).trans gs5
  refine V.newa (aty := .int) (t := 0) (N := 10) (a0 := (10, .inl (fun _ => 0))) hG hF (by decide) rfl tw_arr_0.1 (by decide +kernel) (by decide) (by decide) (by decide) (fun _ => rfl) (fun e hq_e => ?_)
  have ne_a_e : a ≠ e := ne_new gs7 hq_e
  have ne_b_e : b ≠ e := ne_new gf8 hq_e
  have ne_s_e : s ≠ e := ne_new gf9 hq_e
  obtain ⟨h_10, gh10⟩ : ∃ z : Hp, z = hset h_7 e (.inl (0, 10, .inl (fun _ => 0))) := ⟨_, rfl⟩
  refine V.hp gh10 ?_
  have gk10 : ∀ q : Nat, q ≠ e → h_10 q = h_7 q := fun q hq => by rw [gh10]; exact hset_ne hq
  have gs10 : h_10 e = some (.inl (0, 10, .inl (fun _ => 0))) := by rw [gh10]; exact hset_eq
  have k5 := gk10
  have gf11 : h_10 a = some (.inr (3, [.ref b, .ref s, .null, .null, .null, .int 0, .int 0, .int 0, .int 0])) := (gk10 a (by first | assumption | exact Ne.symm (by assumption) | omega)).trans gs7
  refine V.putF hG hF ko_RX3_19 hN (by decide +kernel) gf11 (fun C T N hc => by cases hc; exact ⟨rfl, rfl, (.array .int), by decide +kernel, rfl, rfl⟩) (Nat.le_of_ble_eq_true rfl) ?_
  obtain ⟨h_12, gh12⟩ : ∃ z : Hp, z = hset h_10 a (.inr (3, [.ref b, .ref s, .ref e, .null, .null, .int 0, .int 0, .int 0, .int 0])) := ⟨_, rfl⟩
  refine V.hp gh12 ?_
  have gk12 : ∀ q : Nat, q ≠ a → h_12 q = h_10 q := fun q hq => by rw [gh12]; exact hset_ne hq
  have gs12 : h_12 a = some (.inr (3, [.ref b, .ref s, .ref e, .null, .null, .int 0, .int 0, .int 0, .int 0])) := by rw [gh12]; exact hset_eq
  refine V.run hF [(.aload_n 0, 1, .null)] (pc' := 30) (L' := [some (.ref a), none]) (st' := [.ref a]) (by decide +kernel) rfl ?_
  have k6 := gk12
  have gf13 : h_12 b = some (.inl (1, 8, .inl (fun _ => 0))) := (gk12 b (by first | assumption | exact Ne.symm (by assumption) | omega)).trans ((gk10 b (by first | assumption | exact Ne.symm (by assumption) | omega)).trans gf8)
  have gf14 : h_12 s = some (.inl (3, 8, .inr (.inr (.inr (.inr (fun _ => none)))))) := (gk12 s (by first | assumption | exact Ne.symm (by assumption) | omega)).trans ((gk10 s (by first | assumption | exact Ne.symm (by assumption) | omega)).trans gf9)
  have gf15 : h_12 e = some (.inl (0, 10, .inl (fun _ => 0))) := (gk12 e (by first | assumption | exact Ne.symm (by assumption) | omega)).trans gs10
  refine V.new hG hF k_RX3_23 (by decide +kernel) (fun g hq_g => ?_)
  have ne_a_g : a ≠ g := ne_new gs12 hq_g
  have ne_b_g : b ≠ g := ne_new gf13 hq_g
  have ne_s_g : s ≠ g := ne_new gf14 hq_g
  have ne_e_g : e ≠ g := ne_new gf15 hq_g
  obtain ⟨h_16, gh16⟩ : ∃ z : Hp, z = hset h_12 g (.inr (1, [.null, .null])) := ⟨_, rfl⟩
  refine V.hp gh16 ?_
  have gk16 : ∀ q : Nat, q ≠ g → h_16 q = h_12 q := fun q hq => by rw [gh16]; exact hset_ne hq
  have gs16 : h_16 g = some (.inr (1, [.null, .null])) := by rw [gh16]; exact hset_eq
  have k7 := gk16
  have gf17 : h_16 a = some (.inr (3, [.ref b, .ref s, .ref e, .null, .null, .int 0, .int 0, .int 0, .int 0])) := (gk16 a (by first | assumption | exact Ne.symm (by assumption) | omega)).trans gs12
  have ha3 := gf17
  have gf18 : h_16 b = some (.inl (1, 8, .inl (fun _ => 0))) := (gk16 b (by first | assumption | exact Ne.symm (by assumption) | omega)).trans gf13
  have hb3 := gf18
  have gf19 : h_16 s = some (.inl (3, 8, .inr (.inr (.inr (.inr (fun _ => none)))))) := (gk16 s (by first | assumption | exact Ne.symm (by assumption) | omega)).trans gf14
  have hs3 := gf19
  have gf20 : h_16 e = some (.inl (0, 10, .inl (fun _ => 0))) := (gk16 e (by first | assumption | exact Ne.symm (by assumption) | omega)).trans gf15
  have he3 := gf20
  refine V.run hF [(.dup, 1, .null)] (pc' := 34) (L' := [some (.ref a), none]) (st' := [.ref g, .ref g, .ref a]) (by decide +kernel) rfl ?_
  refine V.callI (As := []) (st := [.ref g, .ref a]) hG hF k_RX3_25 (by decide +kernel) (c_X1_init hG gs16) rfl ⟨by rw [hRm]; decide, by rw [hRm]; decide⟩ (Nat.le_of_ble_eq_true rfl) rfl (fun v h8 hp => ?_)
  obtain ⟨rfl, ba, nl, nd, nc, nm, nw, hS, h6, ⟨f1, f2, f3, f4, f5, f6⟩, -, -, hk⟩ := hp
  have F1 : ∀ x ∈ [ba, nl, nd, nc, nm, nw], a ≠ x ∧ b ≠ x ∧ s ≠ x ∧ e ≠ x := by
    intro x hx
    have hn : h_16 x = none := by
      simp only [List.mem_cons, List.not_mem_nil, or_false] at hx
      rcases hx with rfl | rfl | rfl | rfl | rfl | rfl <;> assumption
    exact ⟨ne_new ha3 hn, ne_new hb3 hn, ne_new hs3 hn, ne_new he3 hn⟩
  have kg : ∀ x, x ≠ g → (∀ y ∈ [ba, nl, nd, nc, nm, nw], x ≠ y) → h8 x = h_16 x := fun x e0 e1 => hk x e0 (e1 _ (by simp)) (e1 _ (by simp)) (e1 _ (by simp)) (e1 _ (by simp)) (e1 _ (by simp)) (e1 _ (by simp))
  have ha4 := (kg a ne_a_g (fun y hy => (F1 y hy).1)).trans ha3
  have hb4 := (kg b ne_b_g (fun y hy => (F1 y hy).2.1)).trans hb3
  have hs4 := (kg s ne_s_g (fun y hy => (F1 y hy).2.2.1)).trans hs3
  have he4 := (kg e ne_e_g (fun y hy => (F1 y hy).2.2.2)).trans he3
  show V G F _ _ _ 37 [some (.ref a), none] [.ref g, .ref a] h8
  refine V.putF hG hF ko_RX3_26 hN (by decide +kernel) ha4 (fun C T N hc => by cases hc; exact ⟨rfl, rfl, (.object "TallyWax$Smoothing"), by decide +kernel, rfl, rfl⟩) (Nat.le_of_ble_eq_true rfl) ?_
  obtain ⟨h_22, gh22⟩ : ∃ z : Hp, z = hset h8 a (.inr (3, [.ref b, .ref s, .ref e, .ref g, .null, .int 0, .int 0, .int 0, .int 0])) := ⟨_, rfl⟩
  refine V.hp gh22 ?_
  have gk22 : ∀ q : Nat, q ≠ a → h_22 q = h8 q := fun q hq => by rw [gh22]; exact hset_ne hq
  have gs22 : h_22 a = some (.inr (3, [.ref b, .ref s, .ref e, .ref g, .null, .int 0, .int 0, .int 0, .int 0])) := by rw [gh22]; exact hset_eq
  refine V.run hF [(.aload_n 0, 1, .null), (.bipush 8, 2, .int (nI 8))] (pc' := 43) (L' := [some (.ref a), none]) (st' := [.int (nI 8), .ref a]) (by decide +kernel) rfl ?_
  have k8 := gk22
  have hb5 := (gk22 b (Ne.symm ne_a_b)).trans hb4
  have hs5 := (gk22 s (Ne.symm ne_a_s)).trans hs4
  have he5 := (gk22 e (Ne.symm ne_a_e)).trans he4
  have F2 : ∀ x ∈ [ba, nl, nd, nc, nm, nw], g ≠ x := by
    obtain ⟨n1, n2, n3, n4, n5, n6⟩ := hS.ne
    intro x hx
    simp only [List.mem_cons, List.not_mem_nil, or_false] at hx
    rcases hx with rfl | rfl | rfl | rfl | rfl | rfl <;> assumption
  have F3 : ∀ x ∈ [ba, nl, nd, nc, nm, nw], h x = none := by
    intro x hx
    have hn : h_16 x = none := by
      simp only [List.mem_cons, List.not_mem_nil, or_false] at hx
      rcases hx with rfl | rfl | rfl | rfl | rfl | rfl <;> assumption
    obtain ⟨x1, x2, x3, x4⟩ := F1 x hx
    rw [← k1 x (Ne.symm x2), ← k2 x (Ne.symm x1), ← k3 x (Ne.symm x3), ← k4 x (Ne.symm x1), ← k5 x (Ne.symm x4), ← k6 x (Ne.symm x1), ← k7 x (Ne.symm (F2 x hx))]
    exact hn
  obtain ⟨S1, S2, S3⟩ := hS
  have hS5 : SMc h_22 g ba nl nd nc nm nw PS0 := ⟨(gk22 _ (Ne.symm ne_a_g)).trans S1, (gk22 _ (Ne.symm (F1 ba (by simp)).1)).trans S2, S3.mv (fun q hq => gk22 _ (Ne.symm (F1 q (List.mem_cons_of_mem _ hq)).1))⟩
  have hll := S3.nd h6.2
  have ha5 := gs22
  refine V.newa (aty := .int) (t := 0) (N := 8) (a0 := (8, .inl (fun _ => 0))) hG hF (by decide) rfl tw_arr_0.1 (by decide +kernel) (by decide) (by decide) (by decide) (fun _ => rfl) (fun r hq_r => ?_)
  have ne_a_r : a ≠ r := ne_new gs22 hq_r
  obtain ⟨h_23, gh23⟩ : ∃ z : Hp, z = hset h_22 r (.inl (0, 8, .inl (fun _ => 0))) := ⟨_, rfl⟩
  refine V.hp gh23 ?_
  have gk23 : ∀ q : Nat, q ≠ r → h_23 q = h_22 q := fun q hq => by rw [gh23]; exact hset_ne hq
  have gs23 : h_23 r = some (.inl (0, 8, .inl (fun _ => 0))) := by rw [gh23]; exact hset_eq
  have k9 := gk23
  obtain ⟨S1, S2, S3, S4, S5, S6, S7⟩ := id hS5
  have F4 : ∀ x ∈ [a, b, s, e, g, ba, nl, nd, nc, nm, nw], x ≠ r := by
    intro x hx
    simp only [List.mem_cons, List.not_mem_nil, or_false] at hx
    rcases hx with rfl | rfl | rfl | rfl | rfl | rfl | rfl | rfl | rfl | rfl | rfl
    · exact ne_new ha5 hq_r
    · exact ne_new hb5 hq_r
    · exact ne_new hs5 hq_r
    · exact ne_new he5 hq_r
    · exact ne_new S1 hq_r
    · exact ne_new S2 hq_r
    · exact ne_new S3 hq_r
    · exact ne_new S4 hq_r
    · exact ne_new S5 hq_r
    · exact ne_new S6 hq_r
    · exact ne_new S7 hq_r
  have gf24 : h_23 a = some (.inr (3, [.ref b, .ref s, .ref e, .ref g, .null, .int 0, .int 0, .int 0, .int 0])) := (gk23 a (by first | assumption | exact Ne.symm (by assumption) | omega)).trans gs22
  refine V.putF hG hF ko_RX3_30 hN (by decide +kernel) gf24 (fun C T N hc => by cases hc; exact ⟨rfl, rfl, (.array .int), by decide +kernel, rfl, rfl⟩) (Nat.le_of_ble_eq_true rfl) ?_
  obtain ⟨h_25, gh25⟩ : ∃ z : Hp, z = hset h_23 a (.inr (3, [.ref b, .ref s, .ref e, .ref g, .ref r, .int 0, .int 0, .int 0, .int 0])) := ⟨_, rfl⟩
  refine V.hp gh25 ?_
  have gk25 : ∀ q : Nat, q ≠ a → h_25 q = h_23 q := fun q hq => by rw [gh25]; exact hset_ne hq
  have gs25 : h_25 a = some (.inr (3, [.ref b, .ref s, .ref e, .ref g, .ref r, .int 0, .int 0, .int 0, .int 0])) := by rw [gh25]; exact hset_eq
  have k10 := gk25
  have gf26 : h_25 r = some (.inl (0, 8, .inl (fun _ => 0))) := (gk25 r (by first | assumption | exact Ne.symm (by assumption) | omega)).trans gs23
  have r6 := gf26
  have a6 := gs25
  have T : ∀ x, x ≠ r → x ≠ a → h_25 x = h_22 x := fun x e1 e2 => (k10 x e2).trans (k9 x e1)
  have hb6 := (T b (F4 b (by simp)) (Ne.symm ne_a_b)).trans hb5
  have hs6 := (T s (F4 s (by simp)) (Ne.symm ne_a_s)).trans hs5
  have he6 := (T e (F4 e (by simp)) (Ne.symm ne_a_e)).trans he5
  have hS6 : SMc h_25 g ba nl nd nc nm nw PS0 := ⟨(T _ (F4 g (by simp)) (Ne.symm ne_a_g)).trans hS5.1, (T _ (F4 ba (by simp)) (Ne.symm (F1 ba (by simp)).1)).trans hS5.2.1, hS5.2.2.mv (fun q hq => T _ (F4 q (List.mem_append_right [a, b, s, e, g, ba] hq)) (Ne.symm (F1 q (List.mem_cons_of_mem _ hq)).1))⟩
  have KP : ∀ x, (∀ y ∈ [a, b, s, e, g, r, ba, nl, nd, nc, nm, nw], x ≠ y) → h_25 x = h x := fun x hx => by
    rw [k10 x (hx a (by simp)), k9 x (hx r (by simp)), k8 x (hx a (by simp)), kg x (hx g (by simp)) (fun y hy => hx y (List.mem_append_right [a, b, s, e, g, r] hy)), k7 x (hx g (by simp)), k6 x (hx a (by simp)), k5 x (hx e (by simp)), k4 x (hx a (by simp)), k3 x (hx s (by simp)), k2 x (hx a (by simp)), k1 x (hx b (by simp))]
  obtain ⟨hZ, hhZ⟩ : ∃ z : Hp, z = h_25 := ⟨_, rfl⟩
  rw [← hhZ] at hb6 hs6 he6 hS6 KP r6 a6 ⊢
  obtain ⟨AA, hAA⟩ : ∃ A : Nat → Nat, A = li12 [a, b, s, e, g, r, ba, nl, nd, nc, nm, nw] := ⟨_, rfl⟩
  have nod : List.Nodup [a, b, s, e, g, r, ba, nl, nd, nc, nm, nw] := by
    simp only [List.nodup_cons, List.mem_cons, not_or, List.not_mem_nil, not_false_eq_true, List.nodup_nil, and_true]
    simp only [List.mem_cons, List.not_mem_nil, or_false, forall_eq_or_imp, forall_eq] at F1 F2 F4
    obtain ⟨⟨n1, n2, n3, n4, n5⟩, m1, m2, m3, m4, m5, m6⟩ := h6
    obtain ⟨⟨l1, l2, l3, l4⟩, -⟩ := hll
    obtain ⟨⟨u1, u2, u3, u4⟩, ⟨u5, u6, u7, u8⟩, ⟨u9, u10, u11, u12⟩, ⟨u13, u14, u15, u16⟩, ⟨u17, u18, u19, u20⟩, u21, u22, u23, u24⟩ := F1
    obtain ⟨w1, w2, w3, w4, w5, w6⟩ := F2
    obtain ⟨z1, z2, z3, z4, z5, z6, z7, z8, z9, z10, z11⟩ := F4
    and_intros <;> first | assumption | exact Ne.symm (by assumption)
  have hInj : Inj AA 12 := by rw [hAA]; exact li_inj nod
  have fin0 : ∀ h1 : Hp, h1 b = some (.inl (1, 8, .inl (mxk 8 (fun _ => 1) (fun _ => 0)))) → (∀ x, x ≠ b → h1 x = hZ x) → ∃ A : Nat → Nat, A 0 = a ∧ CS h1 A S0 PS0 (fun _ => 0) ∧ (∀ i, 0 < i → i < 12 → h (A i) = none) ∧ kpC h h1 A 12 := by
    intro h1 e1 e2
    have es : shf AA (gT S0) = fun _ => none := by
      funext t
      exact shf_out (Nat.not_lt_zero t)
    have nb : ∀ x ∈ [ba, nl, nd, nc, nm, nw], x ≠ b := fun x hx => Ne.symm (F1 x hx).2.1
    have c0 := (e2 a ne_a_b).trans a6
    have c2 := (e2 s (Ne.symm ne_b_s)).trans hs6
    have c3 := (e2 e (Ne.symm ne_b_e)).trans he6
    have c4 : SMc h1 g ba nl nd nc nm nw PS0 := ⟨(e2 g (Ne.symm ne_b_g)).trans hS6.1, (e2 ba (nb _ (by simp))).trans hS6.2.1, hS6.2.2.mv (fun q hq => e2 q (nb q (List.mem_cons_of_mem _ hq)))⟩
    have c5 := (e2 r (Ne.symm (F4 b (by simp)))).trans r6
    have f1 : h b = none := hq_b
    have f2 : h s = none := by rw [← k1 s (Ne.symm ne_b_s), ← k2 s (Ne.symm ne_a_s)]; exact hq_s
    have f3 : h e = none := by rw [← k1 e (Ne.symm ne_b_e), ← k2 e (Ne.symm ne_a_e), ← k3 e (Ne.symm ne_s_e), ← k4 e (Ne.symm ne_a_e)]; exact hq_e
    have f4 : h g = none := by rw [← k1 g (Ne.symm ne_b_g), ← k2 g (Ne.symm ne_a_g), ← k3 g (Ne.symm ne_s_g), ← k4 g (Ne.symm ne_a_g), ← k5 g (Ne.symm ne_e_g), ← k6 g (Ne.symm ne_a_g)]; exact hq_g
    have f5 : h r = none := by
      have na := Ne.symm (F4 a (by simp))
      rw [← k1 r (Ne.symm (F4 b (by simp))), ← k2 r na, ← k3 r (Ne.symm (F4 s (by simp))), ← k4 r na, ← k5 r (Ne.symm (F4 e (by simp))), ← k6 r na, ← k7 r (Ne.symm (F4 g (by simp))), ← kg r (Ne.symm (F4 g (by simp))) (fun y hy => Ne.symm (F4 y (List.mem_append_right [a, b, s, e, g] hy))), ← k8 r na]
      exact hq_r
    subst hAA
    refine ⟨_, rfl, ⟨hInj, Nat.zero_le _, c0, e1, by rw [es]; exact c2, c3, c4, c5, fun t ht => absurd ht (Nat.not_lt_zero t)⟩, ?_, ?_⟩
    · intro i h0 h12
      have : i = 1 ∨ i = 2 ∨ i = 3 ∨ i = 4 ∨ i = 5 ∨ i = 6 ∨ i = 7 ∨ i = 8 ∨ i = 9 ∨ i = 10 ∨ i = 11 := by omega
      rcases this with rfl | rfl | rfl | rfl | rfl | rfl | rfl | rfl | rfl | rfl | rfl
      · exact f1
      · exact f2
      · exact f3
      · exact f4
      · exact f5
      · exact F3 ba (by simp)
      · exact F3 nl (by simp)
      · exact F3 nd (by simp)
      · exact F3 nc (by simp)
      · exact F3 nm (by simp)
      · exact F3 nw (by simp)
    · intro q hq
      refine (e2 q (hq 1 (by decide))).trans (KP q (fun y hy => ?_))
      simp only [List.mem_cons, List.not_mem_nil, or_false] at hy
      rcases hy with rfl | rfl | rfl | rfl | rfl | rfl | rfl | rfl | rfl | rfl | rfl | rfl
      · exact hq 0 (by decide)
      · exact hq 1 (by decide)
      · exact hq 2 (by decide)
      · exact hq 3 (by decide)
      · exact hq 4 (by decide)
      · exact hq 5 (by decide)
      · exact hq 6 (by decide)
      · exact hq 7 (by decide)
      · exact hq 8 (by decide)
      · exact hq 9 (by decide)
      · exact hq 10 (by decide)
      · exact hq 11 (by decide)
  have loop : ∀ k, k ≤ 8 → ∀ h1 : Hp, h1 b = some (.inl (1, 8, .inl (mxk k (fun _ => 1) (fun _ => 0)))) → (∀ x, x ≠ b → h1 x = hZ x) → V G F (fin G F (is_v fun h' => ∃ A : Nat → Nat, A 0 = a ∧ CS h' A S0 PS0 (fun _ => 0) ∧ (∀ i, 0 < i → i < 12 → h (A i) = none) ∧ kpC h h' A 12) pxN) 0 0 50 [some (.ref a), some (.int (nI k))] [] h1 := by
    refine lp_up 8 fun k hk ih => ?_
    intro h1 e1 e2
    have e3 := (e2 a ne_a_b).trans a6
    refine V.run hF [(.iload_n 1, 1, .null), (.bipush 8, 2, .int (nI 8))] (pc' := 53) (L' := [some (.ref a), some (.int (nI k))]) (st' := [.int (nI 8), .int (nI k)]) (by decide +kernel) rfl ?_
    refine V.icmpN_ge (i := k) (j := 8) hF (off := 16) (tgt := 69) (by decide +kernel) (by decide) (by omega) (by omega) (fun c1 => ?_) (fun c1 => ?_)
    · have e : k = 8 := by omega
      rw [e] at e1
      exact V.retv hF (by decide +kernel) ⟨rfl, fin0 h1 e1 e2⟩
    · skip
      refine V.run hF [(.aload_n 0, 1, .null)] (pc' := 57) (L' := [some (.ref a), some (.int (nI k))]) (st' := [.ref a]) (by decide +kernel) rfl ?_
      refine V.getf hG hF k_RX3_9 (by decide +kernel) e3 rfl ?_
      refine V.run hF [(.iload_n 1, 1, .null), (.iconst 1, 1, .int 1)] (pc' := 62) (L' := [some (.ref a), some (.int (nI k))]) (st' := [.int 1, .int (nI k), .ref b]) (by decide +kernel) rfl ?_
      refine V.zastN (j := k) hG hF (by decide +kernel) e1 (by omega) (by decide) (nz (Or.inr rfl)) ?_
      obtain ⟨h_27, gh27⟩ : ∃ z : Hp, z = hset h1 b (.inl (1, 8, .inl (upd (mxk k (fun _ => 1) (fun _ => 0)) k 1))) := ⟨_, rfl⟩
      refine V.hp gh27 ?_
      have gk27 : ∀ q : Nat, q ≠ b → h_27 q = h1 q := fun q hq => by rw [gh27]; exact hset_ne hq
      have gs27 : h_27 b = some (.inl (1, 8, .inl (upd (mxk k (fun _ => 1) (fun _ => 0)) k 1))) := by rw [gh27]; exact hset_eq
      refine V.run hF [(.iinc 1 1, 3, .int 1), (.goto (-16), 3, .null)] (pc' := 50) (L' := [some (.ref a), some (.int ((nI k) + 1))]) (st' := []) (by decide +kernel) rfl ?_
      rw [nI_1 k]
      exact ih c1 h_27 (gs27.trans (by rw [← mxk_s])) (fun x hx => (gk27 x hx).trans (e2 x hx))
  refine V.run hF [(.iconst 0, 1, .int (nI 0)), (.istore_n 1, 1, .null)] (pc' := 50) (L' := [some (.ref a), some (.int (nI 0))]) (st' := []) (by decide +kernel) rfl ?_
  exact loop 0 (Nat.zero_le _) hZ (by rw [mxk_0]; exact hb6) (fun _ _ => rfl)
end Iy
end
section
/-! ===== TallyWax: addTablet ===== -/
def sAdd (σ : Sg) (x : Int32) : Sg := (gth σ, gT σ + 1, va_up (gha σ) (gT σ) x, va_up (gce σ) (gT σ) 0, va_up (gn σ) (gT σ) 0, (va_up (gDD σ) (gT σ) (fun _ => 0), va_up (gC σ) (gT σ) (fun _ => 0), va_up (gM σ) (gT σ) (fun _ => 0), va_up (gW σ) (gT σ) (fun _ => 0)), ghe σ, gy σ, gme σ, gde σ)
def ex6 (A : Nat → Nat) (K : Nat) (L : List Nat) : Nat → Nat := fun i => if i < K then A i else li12 L (i - K)
theorem ex6_lt {A : Nat → Nat} {K i : Nat} {L : List Nat} (h : i < K) : ex6 A K L i = A i := if_pos h
theorem ex6_ge {A : Nat → Nat} {K j : Nat} {L : List Nat} : ex6 A K L (j + K) = li12 L j := by
  rw [ex6, if_neg (by omega), Nat.add_sub_cancel]
section Iz
variable {G : Gt} {h : Hp} {A : Nat → Nat} {σ : Sg} {P : PS} {r : Nat → Int32}
theorem CS.live (hC : CS h A σ P r) {i : Nat} (hi : i < 12 + 6 * gT σ) : ∃ c, h (A i) = some c := by
  obtain ⟨hI, hT8, hA, h1, h2, h3, ⟨s1, s2, s3, s4, s5, s6, s7⟩, h5, h6⟩ := hC
  by_cases q : i < 12
  · have : i = 0 ∨ i = 1 ∨ i = 2 ∨ i = 3 ∨ i = 4 ∨ i = 5 ∨ i = 6 ∨ i = 7 ∨ i = 8 ∨ i = 9 ∨ i = 10 ∨ i = 11 := by omega
    rcases this with rfl | rfl | rfl | rfl | rfl | rfl | rfl | rfl | rfl | rfl | rfl | rfl <;> exact ⟨_, by assumption⟩
  · obtain ⟨t, ht⟩ : ∃ t, t = (i - 12) / 6 := ⟨_, rfl⟩
    have ht' : t < gT σ := by omega
    obtain ⟨t1, ⟨t2, t3, t4, t5, t6⟩, -⟩ := h6 t ht'
    have : i = 12 + 6 * t ∨ i = 13 + 6 * t ∨ i = 14 + 6 * t ∨ i = 15 + 6 * t ∨ i = 16 + 6 * t ∨ i = 17 + 6 * t := by omega
    rcases this with e | e | e | e | e | e <;> rw [e] <;> exact ⟨_, by assumption⟩
theorem CS.exA (hC : CS h A σ P r) {A' : Nat → Nat} (e : ∀ i, i < 12 + 6 * gT σ → A' i = A i) : CS h A' σ P r := by
  obtain ⟨hI, hT8, hA, h1, h2, h3, h4, h5, h6⟩ := hC
  have es : shf A' (gT σ) = shf A (gT σ) := by
    funext t
    by_cases ht : t < gT σ
    · rw [shf_in ht, shf_in ht, e _ (by omega)]
    · rw [shf_out ht, shf_out ht]
  refine ⟨fun i j hi hj q => hI i j hi hj (by rw [← e i hi, ← e j hj]; exact q), hT8, ?_, ?_, ?_, ?_, ?_, ?_, fun t ht => ?_⟩
  · rw [e 0 (by omega), e 1 (by omega), e 2 (by omega), e 3 (by omega), e 4 (by omega), e 5 (by omega)]; exact hA
  · rw [e 1 (by omega)]; exact h1
  · rw [e 2 (by omega), es]; exact h2
  · rw [e 3 (by omega)]; exact h3
  · rw [e 4 (by omega), e 6 (by omega), e 7 (by omega), e 8 (by omega), e 9 (by omega), e 10 (by omega), e 11 (by omega)]; exact h4
  · rw [e 5 (by omega)]; exact h5
  · have ht : t < gT σ := ht
    have := h6 t ht
    unfold TBc at this ⊢
    rw [e (12 + 6 * t) (by omega), e (13 + 6 * t) (by omega), e (14 + 6 * t) (by omega), e (15 + 6 * t) (by omega), e (16 + 6 * t) (by omega), e (17 + 6 * t) (by omega)]
    exact this
theorem CS.add {h' : Hp} (hC : CS h A σ P r) (hT : gT σ < 8) {x : Int32} (hI' : Inj A (12 + 6 * (gT σ + 1)))
    (g0 : h' (A 0) = some (.inr (3, [.ref (A 1), .ref (A 2), .ref (A 3), .ref (A 4), .ref (A 5), .int (nI (gT σ + 1)), .int (nI (gy σ)), .int (gme σ), .int (gde σ)])))
    (g2 : h' (A 2) = some (.inl (3, 8, .inr (.inr (.inr (.inr (shf A (gT σ + 1))))))))
    (g1 : h' (A (12 + 6 * gT σ)) = some (.inr (2, [.int x, .int 0, .ref (A (13 + 6 * gT σ))])))
    (gL : LLc h' (A (13 + 6 * gT σ)) (A (14 + 6 * gT σ)) (A (15 + 6 * gT σ)) (A (16 + 6 * gT σ)) (A (17 + 6 * gT σ)) (fun _ => 0) (fun _ => 0) (fun _ => 0) (fun _ => 0) 0)
    (hk : ∀ i, i < 12 + 6 * gT σ → i ≠ 0 → i ≠ 2 → h' (A i) = h (A i)) : CS h' A (sAdd σ x) P r := by
  obtain ⟨hI, hT8, hA, h1, h2, h3, h4, h5, h6⟩ := id hC
  refine ⟨hI', hT, g0, (hk 1 (by omega) (by omega) (by omega)).trans h1, g2, (hk 3 (by omega) (by omega) (by omega)).trans h3, SMc.mv h4 (fun i e1 e2 e3 => hk i (by omega) (by omega) (by omega)), (hk 5 (by omega) (by omega) (by omega)).trans h5, fun t ht => ?_⟩
  by_cases e : t = gT σ
  · unfold TBc sAdd
    simp only [gha, gce, gn, gDD, gC, gM, gW, gT]
    rw [e]
    simp only [vu_s]
    exact ⟨g1, gL, Nat.zero_le _⟩
  · have ht' : t < gT σ := by
      have : t < gT σ + 1 := ht
      omega
    have := hC.tb (h' := h') ht' (fun i q1 q2 => hk i (by omega) (by omega) (by omega))
    unfold TBc sAdd
    simp only [gha, gce, gn, gDD, gC, gM, gW, vu_n e]
    exact this
abbrev inHa (x : Int32) : Prop := ¬ x < 1 ∧ x ≤ 9
set_option maxHeartbeats 8000000 in
theorem c_X3_addTablet (hG : GOk G) (hC : CS h A σ P r) (x : Int32) : Ct G yX3_addTablet (.code yX3_addTablet cX3_addTablet 3 (some .int)) 6 82 6 56 [.ref (A 0), .int x] h
    (fun v h' => inHa x ∧ gT σ < 8 ∧ v = some (.int (nI (gT σ))) ∧ ∃ A', (∀ i, i < 12 + 6 * gT σ → A' i = A i) ∧ (∀ i, 12 + 6 * gT σ ≤ i → i < 18 + 6 * gT σ → h (A' i) = none) ∧ CS h' A' (sAdd σ x) P r ∧ kpC h h' A' (18 + 6 * gT σ))
    (fun E h' => ((E = eA ∧ ¬ inHa x) ∨ (E = eS ∧ inHa x ∧ ¬ gT σ < 8)) ∧ h' = h) := by
  refine Ct.of (by decide +kernel) (Nat.le_of_ble_eq_true rfl) fun F hF hT hN hRm => ?_
  obtain ⟨hI, hT8, hA, h1, h2, h3, h4, h5, h6⟩ := id hC
  refine V.run hF [(.iload_n 1, 1, .null), (.iconst 1, 1, .int 1)] (pc' := 2) (L' := [some (.ref (A 0)), some (.int x), none]) (st' := [.int 1, .int x]) (by decide +kernel) rfl ?_
  refine V.icmp_lt hF (off := 9) (tgt := 11) (by decide +kernel) (by decide) (fun c1 => ?_) (fun c1 => ?_)
  · skip
    exact V.throwS hG hF hT kt_RX3_35 (by decide +kernel) (by decide +kernel) (by decide +kernel) (by decide +kernel) (by decide +kernel) ⟨by rw [hRm]; decide, by rw [hRm]; decide⟩ ⟨Or.inl ⟨rfl, fun q => q.1 c1⟩, rfl⟩
  · skip
    refine V.run hF [(.iload_n 1, 1, .null), (.bipush 9, 2, .int (nI 9))] (pc' := 8) (L' := [some (.ref (A 0)), some (.int x), none]) (st' := [.int (nI 9), .int x]) (by decide +kernel) rfl ?_
    refine V.icmp_le hF (off := 13) (tgt := 21) (by decide +kernel) (by decide) (fun c2 => ?_) (fun c2 => ?_)
    · skip
      refine V.run hF [(.aload_n 0, 1, .null)] (pc' := 22) (L' := [some (.ref (A 0)), some (.int x), none]) (st' := [.ref (A 0)]) (by decide +kernel) rfl ?_
      refine V.getf hG hF k_RX3_40 (by decide +kernel) hA rfl ?_
      refine V.run hF [(.istore_n 2, 1, .null), (.iload_n 2, 1, .null)] (pc' := 27) (L' := [some (.ref (A 0)), some (.int x), some (.int (nI (gT σ)))]) (st' := [.int (nI (gT σ))]) (by decide +kernel) rfl ?_
      refine V.if_lt hF (off := 9) (tgt := 36) (by decide +kernel) (by decide) (fun c3 => ?_) (fun c3 => ?_)
      · exact absurd c3 (nI_pos (by omega))
      · skip
        refine V.run hF [(.iload_n 2, 1, .null), (.bipush 8, 2, .int (nI 8))] (pc' := 33) (L' := [some (.ref (A 0)), some (.int x), some (.int (nI (gT σ)))]) (st' := [.int (nI 8), .int (nI (gT σ))]) (by decide +kernel) rfl ?_
        refine V.icmpN_lt (i := gT σ) (j := 8) hF (off := 13) (tgt := 46) (by decide +kernel) (by decide) (by omega) (by omega) (fun c4 => ?_) (fun c4 => ?_)
        · skip
          refine V.run hF [(.aload_n 0, 1, .null)] (pc' := 47) (L' := [some (.ref (A 0)), some (.int x), some (.int (nI (gT σ)))]) (st' := [.ref (A 0)]) (by decide +kernel) rfl ?_
          refine V.getf hG hF k_RX3_15 (by decide +kernel) hA rfl ?_
          refine V.run hF [(.iload_n 2, 1, .null)] (pc' := 51) (L' := [some (.ref (A 0)), some (.int x), some (.int (nI (gT σ)))]) (st' := [.int (nI (gT σ)), .ref (A 2)]) (by decide +kernel) rfl ?_
          refine V.new hG hF k_RX3_13 (by decide +kernel) (fun y hq_y => ?_)
          have ne_A0_y : (A 0) ≠ y := ne_new hA hq_y
          obtain ⟨h_1, gh1⟩ : ∃ z : Hp, z = hset h y (.inr (2, [.int 0, .int 0, .null])) := ⟨_, rfl⟩
          refine V.hp gh1 ?_
          have gk1 : ∀ q : Nat, q ≠ y → h_1 q = h q := fun q hq => by rw [gh1]; exact hset_ne hq
          have gs1 : h_1 y = some (.inr (2, [.int 0, .int 0, .null])) := by rw [gh1]; exact hset_eq
          have k1 := gk1
          have gq := gs1
          refine V.run hF [(.dup, 1, .null), (.iload_n 1, 1, .null)] (pc' := 56) (L' := [some (.ref (A 0)), some (.int x), some (.int (nI (gT σ)))]) (st' := [.int x, .ref y, .ref y, .int (nI (gT σ)), .ref (A 2)]) (by decide +kernel) rfl ?_
          refine V.callI (As := [.int x]) (st := [.ref y, .int (nI (gT σ)), .ref (A 2)]) hG hF k_RX3_49 (by decide +kernel) (c_X2_init hG gq) rfl ⟨by rw [hRm]; decide, by rw [hRm]; decide⟩ (Nat.le_of_ble_eq_true rfl) rfl (fun v h2' hp => ?_)
          obtain ⟨hv, l, d, c, m, w, q1, hLL, hnd, ⟨f1, f2, f3, f4, f5⟩, hk⟩ := hp
          rw [hv]
          have hll := hLL.nd hnd
          have lv1 : ∀ i, i < 12 + 6 * gT σ → A i ≠ y := fun i hi => by
            obtain ⟨z, hz⟩ := hC.live hi
            exact ne_new hz hq_y
          have lv : ∀ i, i < 12 + 6 * gT σ → ∀ z, h_1 z = none → A i ≠ z := fun i hi z hz => by
            obtain ⟨z', hz'⟩ := hC.live hi
            exact ne_new ((k1 (A i) (lv1 i hi)).trans hz') hz
          have yn : ∀ z, h_1 z = none → y ≠ z := fun z hz => ne_new gq hz
          have up : ∀ z, h_1 z = none → h z = none := fun z hz => by
            rw [← k1 z (Ne.symm (yn z hz))]; exact hz
          have kp : ∀ i, i < 12 + 6 * gT σ → h2' (A i) = h (A i) := fun i hi => (hk (A i) (lv1 i hi) (lv i hi l f1) (lv i hi d f2) (lv i hi c f3) (lv i hi m f4) (lv i hi w f5)).trans (k1 (A i) (lv1 i hi))
          have hA2 := (kp 0 (by omega)).trans hA
          have hS2 := (kp 2 (by omega)).trans h2
          obtain ⟨B, hB⟩ : ∃ B : Nat → Nat, B = ex6 A (12 + 6 * gT σ) [y, l, d, c, m, w] := ⟨_, rfl⟩
          have bl : ∀ i, i < 12 + 6 * gT σ → B i = A i := fun i hi => by rw [hB]; exact ex6_lt hi
          have b0 : B (12 + 6 * gT σ) = y := by rw [hB, ex6, if_neg (Nat.lt_irrefl _), Nat.sub_self]; rfl
          have b1 : B (13 + 6 * gT σ) = l := by rw [hB, show 13 + 6 * gT σ = 1 + (12 + 6 * gT σ) by omega, ex6_ge]; rfl
          have b2 : B (14 + 6 * gT σ) = d := by rw [hB, show 14 + 6 * gT σ = 2 + (12 + 6 * gT σ) by omega, ex6_ge]; rfl
          have b3 : B (15 + 6 * gT σ) = c := by rw [hB, show 15 + 6 * gT σ = 3 + (12 + 6 * gT σ) by omega, ex6_ge]; rfl
          have b4 : B (16 + 6 * gT σ) = m := by rw [hB, show 16 + 6 * gT σ = 4 + (12 + 6 * gT σ) by omega, ex6_ge]; rfl
          have b5 : B (17 + 6 * gT σ) = w := by rw [hB, show 17 + 6 * gT σ = 5 + (12 + 6 * gT σ) by omega, ex6_ge]; rfl
          have nod : List.Nodup [y, l, d, c, m, w] := by
            obtain ⟨⟨l1, l2, l3, l4⟩, l5, l6, l7, l8, l9, l10⟩ := hll
            have y1 := yn l f1
            have y2 := yn d f2
            have y3 := yn c f3
            have y4 := yn m f4
            have y5 := yn w f5
            simp only [List.nodup_cons, List.mem_cons, not_or, List.not_mem_nil, not_false_eq_true, List.nodup_nil, and_true]
            and_intros <;> first | assumption | exact Ne.symm (by assumption)
          have fr : ∀ i, 12 + 6 * gT σ ≤ i → i < 18 + 6 * gT σ → h (B i) = none ∧ ∃ j, j < 6 ∧ i = j + (12 + 6 * gT σ) ∧ B i = li12 [y, l, d, c, m, w] j := fun i i1 i2 => by
            have : i = 12 + 6 * gT σ ∨ i = 13 + 6 * gT σ ∨ i = 14 + 6 * gT σ ∨ i = 15 + 6 * gT σ ∨ i = 16 + 6 * gT σ ∨ i = 17 + 6 * gT σ := by omega
            rcases this with e | e | e | e | e | e <;> rw [e]
            · exact ⟨by rw [b0]; exact hq_y, 0, by decide, by omega, b0⟩
            · exact ⟨by rw [b1]; exact up l f1, 1, by decide, by omega, b1⟩
            · exact ⟨by rw [b2]; exact up d f2, 2, by decide, by omega, b2⟩
            · exact ⟨by rw [b3]; exact up c f3, 3, by decide, by omega, b3⟩
            · exact ⟨by rw [b4]; exact up m f4, 4, by decide, by omega, b4⟩
            · exact ⟨by rw [b5]; exact up w f5, 5, by decide, by omega, b5⟩
          have hIB : Inj B (12 + 6 * (gT σ + 1)) := by
            intro i j hi hj e
            by_cases ci : i < 12 + 6 * gT σ
            · by_cases cj : j < 12 + 6 * gT σ
              · rw [bl i ci, bl j cj] at e
                exact hI i j ci cj e
              · obtain ⟨z, hz⟩ := hC.live ci
                exact absurd ((bl i ci).symm.trans e) (ne_new hz (fr j (by omega) (by omega)).1)
            · by_cases cj : j < 12 + 6 * gT σ
              · obtain ⟨z, hz⟩ := hC.live cj
                exact absurd ((bl j cj).symm.trans e.symm) (ne_new hz (fr i (by omega) (by omega)).1)
              · obtain ⟨-, i1, i2, i3, i4⟩ := fr i (by omega) (by omega)
                obtain ⟨-, j1, j2, j3, j4⟩ := fr j (by omega) (by omega)
                have := li_inj nod i1 j1 i2 j2 (by rw [← i4, ← j4]; exact e)
                omega
          have hsh : va_up (shf A (gT σ)) (nI (gT σ)).toNatClampNeg (some y) = shf B (gT σ + 1) := by
            rw [nI_clamp (by omega)]
            funext t
            by_cases e : t = gT σ
            · rw [e, vu_s, shf_in (by omega), b0]
            · rw [vu_n e]
              by_cases e2 : t < gT σ
              · rw [shf_in e2, shf_in (by omega), bl _ (by omega)]
              · rw [shf_out e2, shf_out (by omega)]
          refine V.aast (ci := 2) hG hF (by decide +kernel) hS2 q1 rfl (vp_in_nI c4 (by decide)) ?_
          rw [hsh]
          obtain ⟨h9, gh9⟩ : ∃ z : Hp, z = hset h2' (A 2) (.inl (3, 8, .inr (.inr (.inr (.inr (shf B (gT σ + 1))))))) := ⟨_, rfl⟩
          refine V.hp gh9 ?_
          have k9 : ∀ q : Nat, q ≠ A 2 → h9 q = h2' q := fun q hq => by rw [gh9]; exact hset_ne hq
          have g9 : h9 (A 2) = some (.inl (3, 8, .inr (.inr (.inr (.inr (shf B (gT σ + 1))))))) := by rw [gh9]; exact hset_eq
          have hA3 := (k9 (A 0) (hI.ne (by omega) (by omega) (by omega))).trans hA2
          refine V.run hF [(.aload_n 0, 1, .null), (.iload_n 2, 1, .null), (.iconst 1, 1, .int 1), (.iadd, 1, .null)] (pc' := 64) (L' := [some (.ref (A 0)), some (.int x), some (.int (nI (gT σ)))]) (st' := [.int (nI (gT σ) + 1), .ref (A 0)]) (by decide +kernel) rfl ?_
          rw [nI_1 (gT σ)]
          refine V.putf hG hF k_RX3_40 (by decide +kernel) hA3 (fun C T N hc => by cases hc; exact ⟨rfl, .int, by decide +kernel, rfl, rfl⟩) (Nat.le_of_ble_eq_true rfl) ?_
          obtain ⟨h_3, gh3⟩ : ∃ z : Hp, z = hset h9 (A 0) (.inr (3, [.ref (A 1), .ref (A 2), .ref (A 3), .ref (A 4), .ref (A 5), .int (nI (gT σ + 1)), .int (nI (gy σ)), .int (gme σ), .int (gde σ)])) := ⟨_, rfl⟩
          refine V.hp gh3 ?_
          have gk3 : ∀ q : Nat, q ≠ (A 0) → h_3 q = h9 q := fun q hq => by rw [gh3]; exact hset_ne hq
          have gs3 : h_3 (A 0) = some (.inr (3, [.ref (A 1), .ref (A 2), .ref (A 3), .ref (A 4), .ref (A 5), .int (nI (gT σ + 1)), .int (nI (gy σ)), .int (gme σ), .int (gde σ)])) := by rw [gh3]; exact hset_eq
          refine V.run hF [(.iload_n 2, 1, .null)] (pc' := 68) (L' := [some (.ref (A 0)), some (.int x), some (.int (nI (gT σ)))]) (st' := [.int (nI (gT σ))]) (by decide +kernel) rfl ?_
          have kz := gk3
          have gz := gs3
          have n0 : ∀ z, h_1 z = none → z ≠ A 0 ∧ z ≠ A 2 := fun z hz => ⟨Ne.symm (lv 0 (by omega) z hz), Ne.symm (lv 2 (by omega) z hz)⟩
          have y0 : y ≠ A 0 ∧ y ≠ A 2 := ⟨Ne.symm (lv1 0 (by omega)), Ne.symm (lv1 2 (by omega))⟩
          have T : ∀ z, z ≠ A 0 → z ≠ A 2 → h_3 z = h2' z := fun z e1 e2 => (kz z e1).trans (k9 z e2)
          have hLL2 : LLc h_3 l d c m w (fun _ => 0) (fun _ => 0) (fun _ => 0) (fun _ => 0) 0 := hLL.mv (fun z hz => by
            have : h_1 z = none := by
              simp only [List.mem_cons, List.not_mem_nil, or_false] at hz
              rcases hz with rfl | rfl | rfl | rfl | rfl <;> assumption
            exact T z (n0 z this).1 (n0 z this).2)
          have hCB := hC.exA (A' := B) bl
          have hC2 : CS h_3 B (sAdd σ x) P r := hCB.add c4 hIB (by rw [bl 0 (by omega), bl 1 (by omega), bl 2 (by omega), bl 3 (by omega), bl 4 (by omega), bl 5 (by omega)]; exact gz)
            (by rw [bl 2 (by omega)]; exact (kz (A 2) (hI.ne (by omega) (by omega) (by omega))).trans g9)
            (by rw [b0, b1]; exact (T y y0.1 y0.2).trans q1)
            (by rw [b1, b2, b3, b4, b5]; exact hLL2)
            (fun i i1 i2 i3 => by rw [bl i i1]; exact (T (A i) (hI.ne i1 (by omega) i2) (hI.ne i1 (by omega) i3)).trans (kp i i1))
          have hkp : kpC h h_3 B (18 + 6 * gT σ) := fun q hq => by
            have e0 := hq 0 (by omega)
            have e2 := hq 2 (by omega)
            rw [bl 0 (by omega)] at e0
            rw [bl 2 (by omega)] at e2
            have ey := hq (12 + 6 * gT σ) (by omega)
            have el := hq (13 + 6 * gT σ) (by omega)
            have ed := hq (14 + 6 * gT σ) (by omega)
            have ec := hq (15 + 6 * gT σ) (by omega)
            have em := hq (16 + 6 * gT σ) (by omega)
            have ew := hq (17 + 6 * gT σ) (by omega)
            rw [b0] at ey
            rw [b1] at el
            rw [b2] at ed
            rw [b3] at ec
            rw [b4] at em
            rw [b5] at ew
            exact (T q e0 e2).trans ((hk q ey el ed ec em ew).trans (k1 q ey))
          exact V.reti hF (by decide +kernel) ⟨⟨c1, c2⟩, c4, rfl, B, bl, fun i i1 i2 => (fr i i1 i2).1, hC2, hkp⟩
        · skip
          exact V.throwS hG hF hT kt_RX3_46 (by decide +kernel) (by decide +kernel) (by decide +kernel) (by decide +kernel) (by decide +kernel) ⟨by rw [hRm]; decide, by rw [hRm]; decide⟩ ⟨Or.inr ⟨rfl, ⟨c1, c2⟩, fun q => absurd c4 (by omega)⟩, rfl⟩
    · skip
      exact V.throwS hG hF hT kt_RX3_35 (by decide +kernel) (by decide +kernel) (by decide +kernel) (by decide +kernel) (by decide +kernel) ⟨by rw [hRm]; decide, by rw [hRm]; decide⟩ ⟨Or.inl ⟨rfl, fun q => c2 q.2⟩, rfl⟩
end Iz
end
