/-! ===== arrays of arrays: a grid made in one go, a row laid into an array of rows, an array of rows made ===== -/
section G1
variable {p : Program} {l : Launch} {e : Env} {R : Room} {s : State} {m : MethodId} {args : Array Value} {below : List Frame} {meth : Method} {c : Code}
/-- the outer array when i of its n rows stand -/
def gr_o (cA : ClassId) (n a i : Nat) : Cell := arrV cA n (fun j => if j < i then .ref (a + 1 + j) else .null)
theorem gr_o0 (cA : ClassId) (n a : Nat) : gr_o cA n a 0 = arrV cA n (fun _ => .null) := by
  unfold gr_o
  exact congrArg (arrV cA n) (funext fun j => if_neg (Nat.not_lt_zero j))
theorem gr_oS (cA : ClassId) (n a i : Nat) : (gr_o cA n a i).setSlot i (.ref (a + 1 + i)) = gr_o cA n a (i + 1) := by
  unfold gr_o
  rw [arrV_store]
  refine congrArg (arrV cA n) (funext fun j => ?_)
  unfold updV
  by_cases q : j = i
  · subst q
    rw [if_pos rfl, if_pos (Nat.lt_succ_self j)]
  · rw [if_neg q]
    show (if j < i then _ else _) = _
    by_cases z : j < i
    · rw [if_pos z, if_pos (Nat.lt_succ_of_lt z)]
    · rw [if_neg z, if_neg (by omega)]
def gr_s (T : State) (cA cI : ClassId) (n k : Nat) (dv : Value) : Nat → State
  | 0 => T.pushCell (gr_o cA n T.heap.size 0)
  | i + 1 => ((gr_s T cA cI n k dv i).pushCell (arrV cI k (fun _ => dv))).setCell T.heap.size ((gr_o cA n T.heap.size i).setSlot i (.ref (T.heap.size + 1 + i)))
theorem gr_f (T : State) (cA cI : ClassId) (n k : Nat) (dv : Value) : ∀ i, (gr_s T cA cI n k dv i).heap.size = T.heap.size + 1 + i ∧ (gr_s T cA cI n k dv i).heap[T.heap.size]? = some (gr_o cA n T.heap.size i) ∧ (gr_s T cA cI n k dv i).vm = T.vm ∧ (gr_s T cA cI n k dv i).slotsUsed = T.slotsUsed + n + i * k ∧ (∀ a : Nat, a < T.heap.size → (gr_s T cA cI n k dv i).heap[a]? = T.heap[a]?) ∧ ∀ j, j < i → (gr_s T cA cI n k dv i).heap[T.heap.size + 1 + j]? = some (arrV cI k (fun _ => dv))
  | 0 => by
    refine ⟨by simp [gr_s], by simp [gr_s], rfl, ?_, fun a ha => State.heap_pushCell_of_lt _ _ ha, fun j hj => absurd hj (Nat.not_lt_zero j)⟩
    simp [gr_s, gr_o, arrV_size]
  | i + 1 => by
    obtain ⟨f1, f2, f3, f4, f5, f6⟩ := gr_f T cA cI n k dv i
    have hlt : T.heap.size < (gr_s T cA cI n k dv i).heap.size := by omega
    have hb : ((gr_s T cA cI n k dv i).pushCell (arrV cI k (fun _ => dv))).heap[T.heap.size]? = some (gr_o cA n T.heap.size i) := by rw [State.heap_pushCell_of_lt (h := hlt)]; exact f2
    refine ⟨?_, ?_, by simp [gr_s, f3], ?_, fun a ha => ?_, fun j hj => ?_⟩
    · simp [gr_s, State.setCell, f1]; omega
    · rw [← gr_oS]
      exact State.heap_setCell_self hb
    · simp [gr_s, f4, arrV_size, Nat.succ_mul]; omega
    · show (((gr_s T cA cI n k dv i).pushCell (arrV cI k (fun _ => dv))).setCell T.heap.size _).heap[a]? = _
      rw [State.heap_setCell_other (Nat.ne_of_gt ha), State.heap_pushCell_of_lt (h := Nat.lt_trans ha hlt)]
      exact f5 a ha
    · show (((gr_s T cA cI n k dv i).pushCell (arrV cI k (fun _ => dv))).setCell T.heap.size _).heap[T.heap.size + 1 + j]? = _
      rw [State.heap_setCell_other (show T.heap.size ≠ T.heap.size + 1 + j by omega)]
      rcases Nat.lt_or_ge j i with q | q
      · rw [State.heap_pushCell_of_lt (h := show T.heap.size + 1 + j < _ by rw [f1]; omega)]
        exact f6 j q
      · have e : T.heap.size + 1 + j = (gr_s T cA cI n k dv i).heap.size := by omega
        rw [e]
        exact State.heap_pushCell_size _ _
theorem gr_t (T : State) (f : JFrame) (cA cI : ClassId) (n k : Nat) (dv : Value) : ∀ i, gr_s (T.setTop f) cA cI n k dv i = (gr_s T cA cI n k dv i).setTop f
  | 0 => rfl
  | i + 1 => by simp only [gr_s, gr_t T f cA cI n k dv i, State.heap_setTop, State.pushCell_setTop, State.setCell_setTop]
theorem gr_X {T : State} {locs : List Loc} {cells slots : Nat} (X : Stand p l e R s m args below meth c T locs cells slots) (cA cI : ClassId) (n k : Nat) (dv : Value) : ∀ i, Stand p l e R s m args below meth c (gr_s T cA cI n k dv i) (locs ++ (List.range i).map fun j => ⟨T.heap.size, j⟩) (cells + 1 + i) (slots + n + i * k)
  | 0 => by
    have h := X.pushed (gr_o cA n T.heap.size 0)
    have e : (gr_o cA n T.heap.size 0).slots.size = n := arrV_size _ _ _
    rw [e] at h
    simpa [gr_s] using h
  | i + 1 => by
    have Xi := gr_X X cA cI n k dv i
    obtain ⟨f1, f2, f3, f4, f5, f6⟩ := gr_f T cA cI n k dv i
    have hlt : T.heap.size < (gr_s T cA cI n k dv i).heap.size := by omega
    have hb : ((gr_s T cA cI n k dv i).pushCell (arrV cI k (fun _ => dv))).heap[T.heap.size]? = some (gr_o cA n T.heap.size i) := by rw [State.heap_pushCell_of_lt (h := hlt)]; exact f2
    have h := (Xi.pushed (arrV cI k (fun _ => dv))).stored hb i (.ref (T.heap.size + 1 + i))
    rw [arrV_size] at h
    have e2 : (locs ++ (List.range (i + 1)).map fun j => (⟨T.heap.size, j⟩ : Loc)) = (locs ++ (List.range i).map fun j => (⟨T.heap.size, j⟩ : Loc)) ++ [⟨T.heap.size, i⟩] := by simp [List.range_succ, List.append_assoc]
    have e3 : slots + n + (i + 1) * k = slots + n + i * k + k := by rw [Nat.succ_mul]; omega
    rw [e2, e3]
    exact h
end G1
section G2
variable {E : CtlPost} {e : Env} {d : Bool} {acts : List Action} {s : State}
theorem gm_new {cA comp : ClassId} {kA : Class} {ty : FieldType} {len : Nat} {init : Value} (hk : s.vm.classes[cA]? = some kA) (hkind : kA.kind = .array comp ty) (hlimit : ¬ len > e.platform.arrayLengthLimit) (hheap : ¬ len * componentBytes ty > e.platform.maxHeapBytes) (hfit : fits ty init = true) (hdef : init.isDefault = true) {Q : Addr → Pre}
    (h1 : s.heap.size < e.platform.maxCells) (h2 : s.slotsUsed + len ≤ e.platform.maxSlots) (hq : Q s.heap.size d acts (s.pushCell (arrV cA len (fun _ => init)))) : wp (Jvm.newArray cA len init) Q E e d acts s := by
  rw [← arrV_new] at hq
  have hall : ((Array.replicate len init).all (·.isDefault)) = true := by
    rw [Array.all_replicate]; split <;> simp [hdef]
  have hda : allocActs (Array.replicate len init) s.heap.size acts = acts := by
    unfold allocActs; rw [if_pos hall]
  have hfits : ∀ i v, (Array.replicate len init)[i]? = some v → s.fitsSlot cA .none i v = true := by
    intro i v hv
    simp only [Array.getElem?_replicate] at hv
    split at hv
    · cases hv; simp [State.fitsSlot, State.slotType?, hk, hkind, hfit]
    · cases hv
  simp only [Jvm.newArray, Jvm.arrayFits, wp_bind', W.ask, W.ite, hlimit, if_false, wp_pure', W.theClass, hk, hkind, hheap, W.alloc, W.stop, Option.some.injEq, exists_eq_left', Array.size_replicate, hda]
  rw [if_neg (by omega)]
  exact ⟨h1, h2, hfits, hq⟩
theorem gm_1 {cI cc : ClassId} {kI : Class} {ty : FieldType} {k : Int32} (hk : s.vm.classes[cI]? = some kI) (hkind : kI.kind = .array cc ty) (h0 : ¬ k < 0) (hlimit : ¬ k.toNatClampNeg > e.platform.arrayLengthLimit) (hheap : ¬ k.toNatClampNeg * componentBytes ty > e.platform.maxHeapBytes) (hfit : fits ty (defaultValue ty) = true) (hdef : (defaultValue ty).isDefault = true)
    (h1 : s.heap.size < e.platform.maxCells) (h2 : s.slotsUsed + k.toNatClampNeg ≤ e.platform.maxSlots) {Q : Addr → Pre} (hq : Q s.heap.size d acts (s.pushCell (arrV cI k.toNatClampNeg (fun _ => defaultValue ty)))) : wp (Op.multianewarray.make cI [k]) Q E e d acts s := by
  rw [Op.multianewarray.make]
  simp only [wp_bind', W.ite, h0, if_false, wp_pure', W.theClass, hk, hkind, Option.some.injEq, exists_eq_left']
  exact gm_new hk hkind hlimit hheap hfit hdef h1 h2 hq
theorem gm_rf {t : FieldType} (h : t.isReference = true) (v : Value) (hv : v = .null ∨ ∃ a, v = .ref a) : fits t v = true := by
  rcases hv with rfl | ⟨a, rfl⟩ <;> cases t <;> simp [FieldType.isReference] at h <;> rfl
theorem gm_2 {cA cI cc : ClassId} {kA kI : Class} {t0 ty : FieldType} {n k : Int32} (hk : s.vm.classes[cA]? = some kA) (hkind : kA.kind = .array cI t0) (href : t0.isReference = true) (hkI : s.vm.classes[cI]? = some kI) (hkindI : kI.kind = .array cc ty) (hn : ¬ n < 0) (h0 : ¬ k < 0)
    (hl1 : ¬ n.toNatClampNeg > e.platform.arrayLengthLimit) (hh1 : ¬ n.toNatClampNeg * componentBytes t0 > e.platform.maxHeapBytes) (hl2 : ¬ k.toNatClampNeg > e.platform.arrayLengthLimit) (hh2 : ¬ k.toNatClampNeg * componentBytes ty > e.platform.maxHeapBytes) (hfit : fits ty (defaultValue ty) = true) (hdef : (defaultValue ty).isDefault = true)
    (hc : s.heap.size + 1 + n.toNatClampNeg ≤ e.platform.maxCells) (hs : s.slotsUsed + n.toNatClampNeg + n.toNatClampNeg * k.toNatClampNeg ≤ e.platform.maxSlots) {Q : Addr → Pre} (hq : ∀ d' acts', Q s.heap.size d' acts' (gr_s s cA cI n.toNatClampNeg k.toNatClampNeg (defaultValue ty) n.toNatClampNeg)) : wp (Op.multianewarray.make cA [n, k]) Q E e d acts s := by
  have hfind : ([k].find? (· < 0)) = none := by simp [h0]
  rw [Op.multianewarray.make]
  simp only [wp_bind', W.ite, hn, if_false, wp_pure', W.theClass, hk, hkind, Option.some.injEq, exists_eq_left']
  refine gm_new hk hkind hl1 hh1 (gm_rf href _ (Or.inl rfl)) rfl (by omega) (by have := Nat.zero_le (n.toNatClampNeg * k.toNatClampNeg); omega) ?_
  simp only [hfind]
  rw [ite_self, wp_bind', Std.Legacy.Range.forIn_eq_forIn_range']
  have hsz : ([:n.toNatClampNeg] : Std.Legacy.Range).size = n.toNatClampNeg := by simp [Std.Legacy.Range.size]
  rw [hsz, ← gr_o0 cA n.toNatClampNeg s.heap.size]
  show wp (forIn (List.range' 0 n.toNatClampNeg 1) PUnit.unit _) _ E e d acts _
  refine wp_forIn_inv (fun rest s' => ∃ i, i ≤ n.toNatClampNeg ∧ rest = List.range' i (n.toNatClampNeg - i) ∧ s' = gr_s s cA cI n.toNatClampNeg k.toNatClampNeg (defaultValue ty) i) _ _ ⟨0, Nat.zero_le _, rfl, rfl⟩ ?_ ?_
  · rintro x rest s' d' acts' Q' ⟨i, hi, hl, rfl⟩ hnext
    have hlt : i < n.toNatClampNeg := by
      rcases Nat.lt_or_ge i n.toNatClampNeg with h | h
      · exact h
      · rw [show n.toNatClampNeg - i = 0 from by omega] at hl; simp at hl
    obtain ⟨e1, hrest⟩ : x = i ∧ rest = List.range' (i + 1) (n.toNatClampNeg - (i + 1)) := by
      rw [show n.toNatClampNeg - i = (n.toNatClampNeg - (i + 1)) + 1 from by omega, List.range'_succ] at hl
      exact ⟨(List.cons.inj hl).1, (List.cons.inj hl).2⟩
    subst e1
    obtain ⟨f1, f2, f3, f4, f5, f6⟩ := gr_f s cA cI n.toNatClampNeg k.toNatClampNeg (defaultValue ty) x
    have hmul : x * k.toNatClampNeg + k.toNatClampNeg ≤ n.toNatClampNeg * k.toNatClampNeg := by
      have := Nat.mul_le_mul_right k.toNatClampNeg (show x + 1 ≤ n.toNatClampNeg from hlt)
      rw [Nat.succ_mul] at this; exact this
    simp only [wp_bind']
    refine gm_1 (by rw [f3]; exact hkI) hkindI h0 hl2 hh2 hfit hdef (by rw [f1]; omega) (by rw [f4]; omega) ?_
    have hlt0 : s.heap.size < (gr_s s cA cI n.toNatClampNeg k.toNatClampNeg (defaultValue ty) x).heap.size := by rw [f1]; omega
    simp only [wp_bind', W.writeLoc, wp_pure']
    refine ⟨gr_o cA n.toNatClampNeg s.heap.size x, by rw [State.heap_pushCell_of_lt (h := hlt0)]; exact f2, (by simp [gr_o, arrV]), (by show x < (gr_o _ _ _ _).slots.size; rw [gr_o, arrV_size]; exact hlt), ?_, hnext _ _ _ ⟨x + 1, hlt, hrest, ?_⟩⟩
    · simp [gr_o, arrV, State.fitsSlot, State.slotType?, f3, hk, hkind, gm_rf href _ (Or.inr ⟨_, rfl⟩)]
    · rw [f1]; rfl
  · rintro s' d' acts' ⟨i, hi, hl, rfl⟩
    have hiN : i = n.toNatClampNeg := by
      rcases Nat.lt_or_ge i n.toNatClampNeg with h | h
      · rw [show n.toNatClampNeg - i = (n.toNatClampNeg - (i + 1)) + 1 from by omega, List.range'_succ] at hl; cases hl
      · omega
    rw [hiN]
    simp only [wp_pure']
    exact hq _ _
end G2
section G3
variable {p : Program} {l : Launch} {e : Env} {R : Room} {s : State} {m : MethodId} {args : Array Value} {below : List Frame} {meth : Method} {c : Code} {H : Heap} {locs : List Loc} {cells slots : Nat} {Q : State → Prop}
/-- a grid: an array of n arrays of k -/
theorem gm_W {cc : ByteArray} (hexec : p.tables.exec = Jvm.exec) (hb : c.code = cc) {own : String} {index : Nat} {ty : FieldType} {cA cI cc0 : ClassId} {kA kI : Class} (hown : s.vm.findClass own = some m.cls) (hclink : (Cond.classLink own index ("[" ++ (FieldType.array ty).toString)).before args s = true)
    (hnA : s.vm.findClass ("[" ++ (FieldType.array ty).toString) = some cA) (hkA : s.vm.classes[cA]? = some kA) (hkindA : kA.kind = .array cI (.array ty)) (hkI : s.vm.classes[cI]? = some kI) (hkindI : kI.kind = .array cc0 ty)
    {g : JFrame} (hg : g.method = m) (hdg : decode cc g.pc = .ok (.multianewarray index 2, 4)) {n k : Int32} {rest : List Value} (hstack : g.stack = .int k :: .int n :: rest) (hn : ¬ n < 0) (hk : ¬ k < 0) (hb1 : n.toNatClampNeg * 4 ≤ 536870912) (hb2 : k.toNatClampNeg * componentBytes ty ≤ 536870912) (hb3 : k.toNatClampNeg ≤ 536870912)
    (hfit : fits ty (defaultValue ty) = true) (hdef : (defaultValue ty).isDefault = true) (hcells : cells + (1 + n.toNatClampNeg) ≤ R.cells) (hslots : slots + (n.toNatClampNeg + n.toNatClampNeg * k.toNatClampNeg) ≤ R.slots)
    (kk : ∀ H1 : Heap, H1.size = H.size + 1 + n.toNatClampNeg → H1[H.size]? = some (gr_o cA n.toNatClampNeg H.size n.toNatClampNeg) → (∀ a : Nat, a < H.size → H1[a]? = H[a]?) → (∀ j, j < n.toNatClampNeg → H1[H.size + 1 + j]? = some (arrV cI k.toNatClampNeg (fun _ => defaultValue ty))) →
      W p l e R s m args below meth c H1 (locs ++ (List.range n.toNatClampNeg).map fun j => ⟨H.size, j⟩) (cells + 1 + n.toNatClampNeg) (slots + n.toNatClampNeg + n.toNatClampNeg * k.toNatClampNeg) Q { g with pc := g.pc + 4, stack := .ref H.size :: rest }) : W p l e R s m args below meth c H locs cells slots Q g := by
  intro T hT X
  subst hT; subst hb; subst hg
  have hpl : e.platform.magicAccessors = ({} : Platform).magicAccessors := by rw [X.admits.platform]
  obtain ⟨c0, hfc0, hcl⟩ := Cond.classLink_spec hown hclink e.platform hpl
  cases hnA.symm.trans hfc0
  obtain ⟨hg₁, hwarm₁, hready₁⟩ := State.classEntry (e := e) X.warmed hcl
  generalize T.vm.noted g.method.cls index (.cls cA) = vm₁ at hg₁ hwarm₁ hready₁
  have hal : s.vm.Alike vm₁ := hwarm₁.alike
  obtain ⟨kA₁, hkA₁, heA⟩ := hal.2.2 _ _ hkA
  obtain ⟨kI₁, hkI₁, heI⟩ := hal.2.2 _ _ hkI
  have hkindA₁ : kA₁.kind = .array cI (.array ty) := by rw [heA]; exact hkindA
  have hkindI₁ : kI₁.kind = .array cc0 ty := by rw [heI]; exact hkindI
  have X₁ := X.noted hwarm₁
  obtain ⟨hr1, hr2⟩ := X.roomAbove hcells hslots
  obtain ⟨f1, f2, f3, f4, f5, f6⟩ := gr_f (T.setVm vm₁) cA cI n.toNatClampNeg k.toNatClampNeg (defaultValue ty) n.toNatClampNeg
  have XF := gr_X X₁ cA cI n.toNatClampNeg k.toNatClampNeg (defaultValue ty) n.toNatClampNeg
  obtain ⟨t', a1, b1⟩ := kk _ f1 f2 f5 f6 (gr_s (T.setVm vm₁) cA cI n.toNatClampNeg k.toNatClampNeg (defaultValue ty) n.toNatClampNeg) rfl XF
  refine ⟨t', ?_, b1⟩
  have hl1 : ¬ n.toNatClampNeg > e.platform.arrayLengthLimit := by rw [Launch.admits_arrayLengthLimit X.admits]; omega
  have hh1 : ¬ n.toNatClampNeg * componentBytes (.array ty) > e.platform.maxHeapBytes := by
    rw [Launch.admits_maxHeapBytes X.admits]; show ¬ n.toNatClampNeg * 4 > 536870912; omega
  have hl2 : ¬ k.toNatClampNeg > e.platform.arrayLengthLimit := by rw [Launch.admits_arrayLengthLimit X.admits]; omega
  have hh2 : ¬ k.toNatClampNeg * componentBytes ty > e.platform.maxHeapBytes := by rw [Launch.admits_maxHeapBytes X.admits]; omega
  jvm_step X.here [hexec, hdg]
  simp only [Op.multianewarray.sem, wp_bind', W.resolveClassAt_links (State.method?_setTop g X.here.top) hg₁]
  rw [W.popN, if_neg (by decide)]
  refine ⟨g, State.topJava?_setTop' (s := T.setVm vm₁) g X.here.top, [.int n, .int k], rest, rfl, hstack, ?_⟩
  simp only [List.mapM_cons, List.mapM_nil, wp_bind', wp_pure']
  refine gm_2 (kA := kA₁) (kI := kI₁) (cI := cI) (cc := cc0) (t0 := .array ty) (ty := ty) hkA₁ hkindA₁ rfl hkI₁ hkindI₁ hn hk hl1 hh1 hl2 hh2 hfit hdef (by show T.heap.size + 1 + _ ≤ _; omega) (by show T.slotsUsed + _ + _ ≤ _; omega) (fun d' acts' => ?_)
  have eS : ((T.setTop g).setVm vm₁).setTop { g with stack := rest } = (T.setVm vm₁).setTop { g with stack := rest } := by
    show ((T.setVm vm₁).setTop g).setTop _ = _
    rw [State.setTop_setTop]
  rw [eS, gr_t]
  simp only [wp_bind', W.mark, W.pushRef, State.topJava?_setTop' _ XF.here.top, Option.some.injEq, exists_eq_left', State.setTop_setTop, State.heap_setTop]
  intro acts
  simp [jvm, XF.here.top]
  exact a1
end G3
section G4
variable {G : Gt} {F : Ft} {Q : State → Prop} {own : String} {cc : ByteArray} {nL : Nat} {ret : Option FieldType} {kc ks pc : Nat} {L : List (Option Value)} {st : List Value} {h : Hp}
/-- the pairs (array of arrays, array): the class of the first has the second's as its component -/
theorem gm_k (hG : GOk G) (hF : Ok G F own cc nL ret) {t t' : Nat} (ht : (t = 2 ∧ t' = 0) ∨ (t = 4 ∧ t' = 2)) : gTy t = .array (gTy t') ∧ ∃ (kA kI : Class) (cc0 : ClassId), (fS F).vm.findClass ("[" ++ (gTy t).toString) = some (gA G t) ∧ (fS F).vm.classes[gA G t]? = some kA ∧ kA.kind = .array (gA G t') (gTy t) ∧ (fS F).vm.classes[gA G t']? = some kI ∧ kI.kind = .array cc0 (gTy t') := by
  have key : ∀ (ty : FieldType), gTy t = .array ty → gTy t' = ty → t < 5 → t' < 5 → va_RA (fS F) (gA G t') ty → va_RA (fS F) (gA G t) (.array ty) → (∀ cA, va_RA (fS F) cA ty → (fS F).vm.findClass ("[" ++ ty.toString) = some cA) → Cond.arrayOver (.array ty) ∈ lw_tbl → gTy t = .array (gTy t') ∧ ∃ (kA kI : Class) (cc0 : ClassId), (fS F).vm.findClass ("[" ++ (gTy t).toString) = some (gA G t) ∧ (fS F).vm.classes[gA G t]? = some kA ∧ kA.kind = .array (gA G t') (gTy t) ∧ (fS F).vm.classes[gA G t']? = some kI ∧ kI.kind = .array cc0 (gTy t') := by
    intro ty e1 e2 l1 l2 r1 r2 hn hw
    have hov : (Cond.arrayOver (.array ty)).before (fA F) (fS F) = true := over_moved (State.WarmedH.alike hF.W) (hG.2.1 _ hw)
    obtain ⟨comp, c, k, h1, h2, h3, h4, h5⟩ := arrayOverA_spec hov
    have q1 : comp = gA G t' := Option.some.inj (h1.symm.trans (hn _ r1))
    have q2 : c = gA G t := Option.some.inj (h5.symm.trans r2)
    subst q1; subst q2
    obtain ⟨-, kI, g1, cc0, g2⟩ := (gAr hG hF (t := t') l2).1 0 (fun _ => .null)
    refine ⟨by rw [e1, e2], k, kI, cc0, by rw [e1]; exact h5, h3, by rw [e1]; exact h4, g1, by rw [e2] at g2 ⊢; exact g2⟩
  rcases ht with ⟨rfl, rfl⟩ | ⟨rfl, rfl⟩
  · exact key .int rfl rfl (by decide) (by decide) (gAr hG hF (t := 0) (by decide)).2 (gAr hG hF (t := 2) (by decide)).2 (fun _ h => h) tw_ovA
  · exact key (.array .int) rfl rfl (by decide) (by decide) (gAr hG hF (t := 2) (by decide)).2 (gAr hG hF (t := 4) (by decide)).2 (fun _ h => h) tw_ovB
/-- a grid of n rows of k; a0: a row as it is made -/
theorem V.grid (hG : GOk G) (hF : Ok G F own cc nL ret) {ix t t' n k : Nat} {a0 : vp_A} (ht : (t = 2 ∧ t' = 0) ∨ (t = 4 ∧ t' = 2)) (w1 : Cond.classLink own ix ("[" ++ (gTy t).toString) ∈ lw_tbl) (hd : decode cc pc = .ok (.multianewarray ix 2, 4)) (hn : n ≤ 1000) (hk : k ≤ 1000) (ha : ∀ cA : ClassId, vp_cell cA a0 = arrV cA k (fun _ => defaultValue (gTy t')))
    (kk : ∀ (q : Nat) (h' : Hp), h q = none → (∀ j, j < n → h (q + 1 + j) = none) → h' q = some (.inl (t, n, .inr (.inr (.inr (.inr (fun j => if j < n then some (q + 1 + j) else none)))))) → (∀ j, j < n → h' (q + 1 + j) = some (.inl (t', a0))) → (∀ x c, h x = some c → h' x = some c) → V G F Q kc ks (pc + 4) L (.ref q :: st) h') :
    V G F Q (kc + (1 + n)) (ks + (n + n * k)) pc L (.int (nI k) :: .int (nI n) :: st) h := by
  intro H locs ls cells slots hR hS hL hz h1 h2
  obtain ⟨hx, hb, hml, hr, hown, hlk, hW⟩ := id hF
  obtain ⟨eT, kA, kI, cc0, g1, g2, g3, g4, g5⟩ := gm_k hG hF ht
  have hge : gN G ≤ H.size := Nat.le_trans hW.2.1 hS.1
  have cn : (nI n).toNatClampNeg = n := nI_clamp (by omega)
  have ck : (nI k).toNatClampNeg = k := nI_clamp (by omega)
  have hty : gTy t' = .int ∨ gTy t' = .array .int := by
    rcases ht with ⟨rfl, rfl⟩ | ⟨rfl, rfl⟩
    · exact Or.inl rfl
    · exact Or.inr rfl
  have b4 : componentBytes (gTy t') = 4 := by
    rcases hty with e | e <;> rw [e] <;> rfl
  have hmul : n * k ≤ 1000 * 1000 := Nat.mul_le_mul hn hk
  have hw1 : (Cond.classLink own ix ("[" ++ (FieldType.array (gTy t')).toString)).before (fA F) (fS F) = true := by
    rw [← eT]; exact hF.wd hG w1 rfl
  rw [eT] at g1 g3
  refine gm_W hx hb hown hw1 g1 g2 g3 g4 g5 rfl hd rfl (nI_pos (by omega)) (nI_pos (by omega)) (by rw [cn]; omega) (by rw [ck, b4]; omega) (by rw [ck]; omega) (by rcases hty with e | e <;> rw [e] <;> rfl) (by rcases hty with e | e <;> rw [e] <;> rfl) (by rw [cn]; omega) (by rw [cn, ck]; omega) fun H1 z1 e1 o1 i1 => ?_
  rw [cn, ck] at *
  have fr : ∀ x : Nat, H.size ≤ x → h x = none := fun x hx => by
    cases hc : h x with
    | none => rfl
    | some c => exact absurd (hR _ c hc).2.lt (Nat.not_lt.mpr hx)
  obtain ⟨h', eh⟩ : ∃ z : Hp, z = fun x => if x = H.size then some (.inl (t, n, .inr (.inr (.inr (.inr (fun j => if j < n then some (H.size + 1 + j) else none)))))) else if H.size < x ∧ x < H.size + 1 + n then some (.inl (t', a0)) else h x := ⟨_, rfl⟩
  have p1 : h' H.size = some (.inl (t, n, .inr (.inr (.inr (.inr (fun j => if j < n then some (H.size + 1 + j) else none)))))) := by rw [eh]; exact if_pos rfl
  have p2 : ∀ j, j < n → h' (H.size + 1 + j) = some (.inl (t', a0)) := fun j hj => by
    rw [eh]
    show (if _ then _ else _) = _
    rw [if_neg (by omega), if_pos (by omega)]
  have p3 : ∀ x c, h x = some c → h' x = some c := fun x c hc => by
    have hlt : x < H.size := Nat.not_le.mp fun q => by rw [fr x q] at hc; cases hc
    rw [eh]
    show (if _ then _ else _) = _
    rw [if_neg (by omega), if_neg (by omega)]
    exact hc
  refine kk H.size h' (fr _ (Nat.le_refl _)) (fun j _ => fr _ (by omega)) p1 p2 p3 H1 _ ls _ _ ?_ ⟨Nat.le_trans hS.1 (by omega), fun x h1 h2 => (o1 x (Nat.lt_of_lt_of_le h1 hS.1)).trans (hS.2.1 x h1 h2), ?_⟩ hL hz (by omega) (by omega)
  · intro b d hbd
    by_cases q1 : b = H.size
    · subst q1
      rw [p1] at hbd
      cases hbd
      refine ⟨hge, ?_⟩
      show H1[H.size]? = some (vp_cell _ _)
      rw [e1, vp_cell_q]
      refine congrArg some (congrArg (arrV (gA G t) n) (funext fun j => ?_))
      by_cases hj : j < n
      · rw [if_pos hj, if_pos hj]; rfl
      · rw [if_neg hj, if_neg hj]; rfl
    · rw [eh] at hbd
      simp only [if_neg q1] at hbd
      by_cases q2 : H.size < b ∧ b < H.size + 1 + n
      · rw [if_pos q2] at hbd
        cases hbd
        refine ⟨Nat.le_trans hge (by omega), ?_⟩
        show H1[b]? = some (vp_cell _ _)
        rw [ha, ← i1 (b - (H.size + 1)) (by omega), show H.size + 1 + (b - (H.size + 1)) = b by omega]
      · rw [if_neg q2] at hbd
        exact ⟨(hR b d hbd).1, (hR b d hbd).2.kept (o1 b (hR b d hbd).2.lt)⟩
  · intro lc hlc
    rcases List.mem_append.mp hlc with q | q
    · exact hS.2.2 lc q
    · obtain ⟨j, -, rfl⟩ := List.mem_map.mp q
      exact hge
theorem gr_as (vm : Vm) (f : Nat) (c : ClassId) : vm.assignableAux (f + 1) c c = true := by
  unfold Vm.assignableAux
  rw [beq_self_eq_true, Bool.true_or]
/-- a row (or an array of rows) into an array of them -/
theorem V.aastA (hG : GOk G) (hF : Ok G F own cc nL ret) {a n b t t' : Nat} {x : vp_A} {f : Nat → Option Nat} {i : Int32} (ht : (t = 2 ∧ t' = 0) ∨ (t = 4 ∧ t' = 2)) (hd : decode cc pc = .ok (.aastore, 1)) (hc : h a = some (.inl (t, n, .inr (.inr (.inr (.inr f)))))) (hb : h b = some (.inl (t', x))) (hin : vp_in i n) (kk : V G F Q kc ks (pc + 1) L st (hset h a (.inl (t, n, .inr (.inr (.inr (.inr (va_up f i.toNatClampNeg (some b)))))))) ) : V G F Q kc ks pc L (.ref b :: .int i :: .ref a :: st) h := by
  intro H locs ls cells slots hR hS hL hz h1 h2
  obtain ⟨h0, hlt⟩ : ¬ i < 0 ∧ i.toNatClampNeg < n := ⟨fun q => hin (Or.inl q), Nat.not_le.mp fun q => hin (Or.inr q)⟩
  obtain ⟨eT, kA, kI, cc0, g1, g2, g3, g4, g5⟩ := gm_k hG hF ht
  have hgb : H[b]? = some (vp_cell (gA G t') x) := (hR b _ hb).2
  have hcls : (vp_cell (gA G t') x).cls = gA G t' := by
    obtain ⟨n0, x0⟩ := x
    rcases x0 with f | f | f | f | f <;> rfl
  have hvm : ∀ q, (vp_cell (gA G t') x).vm ≠ .statics q := by
    obtain ⟨n0, x0⟩ := x
    intro q hq
    rcases x0 with f | f | f | f | f <;> cases hq
  refine W.aast hF.1 hF.2.1 (hR a _ hc).2 (fun q h => by cases h) (fun h => by cases h) g2 g3 (by rw [eT]; rfl) g4 ⟨h0, by show _ < (arrV _ _ _).slots.size; rw [arrV_size]; exact hlt⟩ hgb hvm (by rw [hcls]; exact g4) (by rw [hcls]; exact gr_as _ 255 _) rfl rfl hd fun H1 e z oq => ?_
  refine kk H1 _ ls cells slots (hR.store (hR a _ hc).1 ?_ oq) (hS.put z oq (hR a _ hc).1) hL hz h1 h2
  show H1[a]? = some (vp_cell _ _)
  rw [e, vp_cell_q]
  show some ((arrV _ n _).setSlot _ _) = _
  rw [arrV_store]
  show some (arrV (gA G t) n (updV (fun j => va_rf (f j)) i.toNatClampNeg (.ref b))) = some (arrV (gA G t) n (fun j => va_rf (va_up f i.toNatClampNeg (some b) j)))
  refine congrArg some (congrArg (arrV (gA G t) n) (funext fun q => ?_))
  by_cases hq : q = i.toNatClampNeg
  · subst hq
    simp [updV, va_up, va_rf]
  · simp [updV, va_up, hq]
theorem V.aastAN (hG : GOk G) (hF : Ok G F own cc nL ret) {a n b t t' j : Nat} {x : vp_A} {f : Nat → Option Nat} (ht : (t = 2 ∧ t' = 0) ∨ (t = 4 ∧ t' = 2)) (hd : decode cc pc = .ok (.aastore, 1)) (hc : h a = some (.inl (t, n, .inr (.inr (.inr (.inr f)))))) (hb : h b = some (.inl (t', x))) (hj : j < n) (hn : n < 2 ^ 31) (kk : V G F Q kc ks (pc + 1) L st (hset h a (.inl (t, n, .inr (.inr (.inr (.inr (va_up f j (some b)))))))) ) : V G F Q kc ks pc L (.ref b :: .int (nI j) :: .ref a :: st) h := by
  have e : (nI j).toNatClampNeg = j := nI_clamp (Nat.lt_trans hj hn)
  exact V.aastA hG hF ht hd hc hb (vp_in_nI hj hn) (by rw [e]; exact kk)
/-- an array of rows -/
theorem V.newA (hG : GOk G) (hF : Ok G F own cc nL ret) {ix N : Nat} (w1 : Cond.classLink own ix "[I" ∈ lw_tbl) (hd : decode cc pc = .ok (.anewarray ix, 3)) (hN : N ≤ 1000)
    (kk : ∀ q : Nat, h q = none → V G F Q kc ks (pc + 3) L (.ref q :: st) (hset h q (.inl (2, N, .inr (.inr (.inr (.inr (fun _ => none)))))))) : V G F Q (kc + 1) (ks + N) pc L (.int (nI N) :: st) h := by
  intro H locs ls cells slots hR hS hL hz h1 h2
  obtain ⟨hx, hb, hml, hr, hown, hlk, hW⟩ := id hF
  have hge : gN G ≤ H.size := Nat.le_trans hW.2.1 hS.1
  have cn : (nI N).toNatClampNeg = N := nI_clamp (by omega)
  have k4 : (fS F).vm.findClass ("[" ++ (FieldType.array .int).toString) = some (gA G 2) := (gAr hG hF (t := 2) (by decide)).2
  have hw : (Cond.classLink own ix (FieldType.array .int).toString).before (fA F) (fS F) = true := hF.wd hG (w := Cond.classLink own ix (FieldType.array .int).toString) w1 rfl
  refine W.anewA hx hb hown hw (over_moved (State.WarmedH.alike hW.1) (hG.2.1 _ tw_ovA)) rfl hd rfl (nI_pos (by omega)) (by rw [cn]; omega) (by omega) (by rw [cn]; omega) fun cA kA comp f1 f2 f3 f4 => ?_
  have hcA : cA = gA G 2 := Option.some.inj (f1.symm.trans k4)
  subst hcA
  rw [cn]
  generalize hH1 : H.push ({ cls := gA G 2, slots := Array.replicate N .null, vm := .none } : Cell) = H1
  have z1 : H1.size = H.size + 1 := by rw [← hH1, Array.size_push]
  have e1 : H1[H.size]? = some (arrV (gA G 2) N (fun _ => .null)) := by rw [← hH1, Array.getElem?_push_size, ← arrV_new]
  have o1 : ∀ q : Nat, q < H.size → H1[q]? = H[q]? := fun q hq => by rw [← hH1, Array.getElem?_push, if_neg (Nat.ne_of_lt hq)]
  refine kk H.size hR.fresh H1 locs ls (cells + 1) (slots + N) ?_ ⟨Nat.le_trans hS.1 (by omega), fun x h1 h2 => (o1 x (Nat.lt_of_lt_of_le h1 hS.1)).trans (hS.2.1 x h1 h2), hS.2.2⟩ hL hz (by omega) (by omega)
  intro b d hbd
  by_cases hbH : b = H.size
  · subst hbH
    rw [hset_eq] at hbd
    cases hbd
    refine ⟨hge, ?_⟩
    show H1[H.size]? = some (vp_cell _ _)
    rw [e1]
    rfl
  · rw [hset_ne hbH] at hbd
    exact ⟨(hR b d hbd).1, (hR b d hbd).2.kept (o1 b (hR b d hbd).2.lt)⟩
theorem V.iremN (hF : Ok G F own cc nL ret) {a b : Nat} (hd : decode cc pc = .ok (.irem, 1)) (ha : a < 2 ^ 31) (h0 : 0 < b) (hb : b < 2 ^ 31) (kk : V G F Q kc ks (pc + 1) L (.int (nI (a % b)) :: st) h) : V G F Q kc ks pc L (.int (nI b) :: .int (nI a) :: st) h :=
  V.irem hF hd (fun q => nI_ne0 h0 hb q) (by rw [pk_rem ha h0 hb]; exact kk)
theorem V.idivN (hF : Ok G F own cc nL ret) {a b : Nat} (hd : decode cc pc = .ok (.idiv, 1)) (ha : a < 2 ^ 31) (h0 : 0 < b) (hb : b < 2 ^ 31) (kk : V G F Q kc ks (pc + 1) L (.int (nI (a / b)) :: st) h) : V G F Q kc ks pc L (.int (nI b) :: .int (nI a) :: st) h := by
  intro H locs ls cells slots hR hS hL hz h1 h2
  refine lv_idiv hF.1 hF.2.1 hd (fun q => nI_ne0 h0 hb q) ?_
  rw [pk_div ha h0 hb]
  exact kk H locs ls cells slots hR hS hL hz h1 h2
theorem V.retA {po : Option Value → Hp → Prop} {px : String → Hp → Prop} {t : FieldType} (hF : Ok G F own cc nL (some (.array t))) {a : Nat} (hd : decode cc pc = .ok (.areturn, 1)) (hp : po (some (.ref a)) h) : V G F (fin G F po px) kc ks pc L [.ref a] h := by
  intro H locs ls cells slots hR hS hL hz h1 h2
  refine vx_ret (W.widen (k := (fR F).cells) (n := (fR F).slots) (by omega) (by omega) ?_)
  exact W.aret hF.1 hF.2.1 hF.2.2.2.1 (Or.inr ⟨_, rfl⟩) (Or.inr ⟨_, rfl⟩) (fun t ht hW => ⟨_, h, rfl, hp, by rw [ht]; exact hR, hS.F ht⟩) hS.2.2 hd hF.2.2.2.2.2.1
theorem V.retN {po : Option Value → Hp → Prop} {px : String → Hp → Prop} {t : FieldType} (hF : Ok G F own cc nL (some (.array t))) (hd : decode cc pc = .ok (.areturn, 1)) (hp : po (some .null) h) : V G F (fin G F po px) kc ks pc L [.null] h := by
  intro H locs ls cells slots hR hS hL hz h1 h2
  refine vx_ret (W.widen (k := (fR F).cells) (n := (fR F).slots) (by omega) (by omega) ?_)
  exact W.aret hF.1 hF.2.1 hF.2.2.2.1 (Or.inr ⟨_, rfl⟩) (Or.inl rfl) (fun t ht hW => ⟨_, h, rfl, hp, by rw [ht]; exact hR, hS.F ht⟩) hS.2.2 hd hF.2.2.2.2.2.1
end G4
