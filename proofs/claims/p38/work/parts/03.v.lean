/-! ===== the walker: an abstract heap by real addresses, and one judgement V over W; pure stretches run by computation ===== -/
abbrev Gt : Type := Launch × State × Array Value × (Nat → ClassId) × (Nat → Nat → Nat) × (Nat → ClassId)
def gN (G : Gt) : Nat := G.2.1.heap.size
def gF (G : Gt) : Nat → Prop := fun q => gN G ≤ q
def gTy : Nat → FieldType := fun k => match k with
  | 0 => .int
  | 1 => .boolean
  | 2 => .array .int
  | 3 => .object "TallyWax$Tablet"
  | _ => .array (.array .int)
def gD (G : Gt) : va_G := (G.2.2.2.1, G.2.2.2.2.1)
def gA (G : Gt) : Nat → ClassId := G.2.2.2.2.2
def gTys (G : Gt) : List (ClassId × FieldType) := [(gA G 0, gTy 0), (gA G 1, gTy 1), (gA G 2, gTy 2), (gA G 3, gTy 3), (gA G 4, gTy 4)]
def GOk (G : Gt) : Prop := G.1.stackTraces = false ∧ (∀ w ∈ lw_tbl, w.before G.2.2.1 G.2.1 = true) ∧ va_K (gD G) vwCl (gTys G) G.2.1 ∧ vx_Zq Bundle.tN "UNASSIGNED_STACK" Bundle.steD (gF G) G.2.1 G.2.1.heap ∧ vx_Zq Bundle.tN "SUPPRESSED_SENTINEL" Bundle.listD (gF G) G.2.1 G.2.1.heap ∧ (∀ own k tx, Cond.stringRef own k tx ∈ lw_tbl → ∃ sa, vk_R own k tx sa G.2.1)
abbrev Ft : Type := Program × Env × Room × State × MethodId × Array Value × List Frame × Method × Code
abbrev fR (F : Ft) : Room := F.2.2.1
abbrev fS (F : Ft) : State := F.2.2.2.1
abbrev fM (F : Ft) : MethodId := F.2.2.2.2.1
abbrev fA (F : Ft) : Array Value := F.2.2.2.2.2.1
abbrev fB (F : Ft) : List Frame := F.2.2.2.2.2.2.1
abbrev fMe (F : Ft) : Method := F.2.2.2.2.2.2.2.1
abbrev fC (F : Ft) : Code := F.2.2.2.2.2.2.2.2
/-- the state's tables and old heap are the start's -/
def St (G : Gt) (U : State) : Prop := G.2.1.WarmedH U.vm ∧ gN G ≤ U.heap.size ∧ ∀ a : Nat, a < gN G → U.heap[a]? = G.2.1.heap[a]?
def Ok (G : Gt) (F : Ft) (own : String) (cc : ByteArray) (nL : Nat) (ret : Option FieldType) : Prop :=
  F.1.tables.exec = Jvm.exec ∧ (fC F).code = cc ∧ (fC F).maxLocals = nL ∧ (fMe F).sig.returnType = ret ∧ (fS F).vm.findClass own = some (fM F).cls ∧ (fMe F).locks = false ∧ St G (fS F)
def NoTab (F : Ft) : Prop := ∀ x ∈ (fC F).exceptionTable.toList, False
def kw (w : Cond) : Bool := match w with
  | .fieldLinkNest .. => true
  | .methodLinkNest .. => true
  | .declares _ => true
  | .castable .. => true
  | w => goodWord w
theorem Ok.wd {G : Gt} {F : Ft} {own : String} {cc : ByteArray} {nL : Nat} {ret : Option FieldType} (hG : GOk G) (hF : Ok G F own cc nL ret) {w : Cond} (hw : w ∈ lw_tbl) (hk : kw w = true) : w.before (fA F) (fS F) = true := by
  have h0 := hG.2.1 w hw
  have hW : G.2.1.WarmedH (fS F).vm := hF.2.2.2.2.2.2.1
  by_cases hg : goodWord w = true
  · exact word_at hW (good_of_word hg) h0
  · cases w with
    | fieldLinkNest a i b n d h => exact va_Nw.use rfl (va_Nw.warmF hW (va_Nw.of rfl h0))
    | methodLinkNest a i x h => exact va_Nw.use rfl (va_Nw.warmM hW (va_Nw.of rfl h0))
    | declares x => exact va_Nw.use rfl (va_Nw.warmD hW (va_Nw.of rfl h0))
    | castable a b => exact va_Nw.use rfl (va_Nw.warmC hW (va_Nw.of rfl h0))
    | _ => exact absurd hk hg
theorem Ok.K {G : Gt} {F : Ft} {own : String} {cc : ByteArray} {nL : Nat} {ret : Option FieldType} (hG : GOk G) (hF : Ok G F own cc nL ret) : va_K (gD G) vwCl (gTys G) (fS F) :=
  va_K.moved (State.WarmedH.alike hF.2.2.2.2.2.2.1) hG.2.2.1
theorem Ok.W {G : Gt} {F : Ft} {own : String} {cc : ByteArray} {nL : Nat} {ret : Option FieldType} (hF : Ok G F own cc nL ret) : G.2.1.WarmedH (fS F).vm := hF.2.2.2.2.2.2.1
-- heaps
abbrev Hp : Type := Nat → Option va_E
def hset (h : Hp) (a : Nat) (c : va_E) : Hp := fun q => if q = a then some c else h q
theorem hset_eq {h : Hp} {a : Nat} {c : va_E} : hset h a c a = some c := if_pos rfl
theorem hset_ne {h : Hp} {a b : Nat} {c : va_E} (hb : b ≠ a) : hset h a c b = h b := if_neg hb
def trc (A : Nat → ClassId) (c : va_E) : va_E := match c with
  | .inl (k, x) => .inl (A k, x)
  | .inr o => .inr o
def Rp (G : Gt) (h : Hp) (H : Heap) : Prop := ∀ (a : Nat) (c : va_E), h a = some c → gN G ≤ a ∧ va_at (gD G) vwCl (a, trc (gA G) c) H
theorem Rp.one {G : Gt} {h : Hp} {H : Heap} {a : Nat} {c : va_E} (hR : Rp G h H) (hc : h a = some c) : va_P (gD G) vwCl [(a, trc (gA G) c)] H := by
  intro k q hk
  have hz : k < 1 := (List.getElem?_eq_some_iff.mp hk).1
  rw [show k = 0 by omega] at hk
  cases hk
  exact (hR a c hc).2
theorem Rp.kept {G : Gt} {h : Hp} {H H1 : Heap} (hR : Rp G h H) (hq : ∀ q : Nat, q < H.size → H1[q]? = H[q]?) : Rp G h H1 :=
  fun a c hc => ⟨(hR a c hc).1, (hR a c hc).2.kept (hq a (hR a c hc).2.lt)⟩
theorem Rp.store {G : Gt} {h : Hp} {H H1 : Heap} {a : Nat} {c : va_E} (hR : Rp G h H) (ha : gN G ≤ a) (hc : va_at (gD G) vwCl (a, trc (gA G) c) H1) (oq : ∀ q : Nat, q ≠ a → H1[q]? = H[q]?) : Rp G (hset h a c) H1 := by
  intro b d hb
  by_cases hba : b = a
  · subst hba
    rw [hset_eq] at hb
    cases hb
    exact ⟨ha, hc⟩
  · rw [hset_ne hba] at hb
    exact ⟨(hR b d hb).1, (hR b d hb).2.kept (oq b hba)⟩
theorem Rp.fresh {G : Gt} {h : Hp} {H : Heap} (hR : Rp G h H) : h H.size = none := by
  cases hc : h H.size with
  | none => rfl
  | some c => exact absurd (hR _ c hc).2.lt (Nat.lt_irrefl _)
theorem Rp.weak {G : Gt} {h h' : Hp} {H : Heap} (hR : Rp G h H) (hw : ∀ a c, h' a = some c → h a = some c) : Rp G h' H := fun a c hc => hR a c (hw a c hc)
-- locals
def LR (ls : Array Slot) (L : List (Option Value)) : Prop := lv_wf ls ∧ ∀ (i : Nat) (v : Value), L[i]? = some (some v) → ls[i]? = some (.val v)
def catAt (L : List (Option Value)) (i : Nat) : Bool := match L[i]? with
  | some (some v) => v.category == 2
  | _ => false
def lset1 (L : List (Option Value)) (i : Nat) (v : Value) : List (Option Value) := (match i with
  | 0 => L
  | j + 1 => if catAt L j then L.set j none else L).set i (some v)
def lset2 (L : List (Option Value)) (i : Nat) (v : Value) : List (Option Value) := (lset1 L i v).set (i + 1) none
theorem set_gs {α : Type} {l : List α} {i : Nat} {a b : α} (h : (l.set i a)[i]? = some b) : b = a := by
  have hl : i < (l.set i a).length := (List.getElem?_eq_some_iff.mp h).1
  rw [List.length_set] at hl
  rw [List.getElem?_set_self hl] at h
  exact (Option.some.inj h).symm
theorem lset1_get {L : List (Option Value)} {i k : Nat} {v w : Value} (h : (lset1 L i v)[k]? = some (some w)) : (k = i ∧ w = v) ∨ (k ≠ i ∧ L[k]? = some (some w) ∧ ¬ (k + 1 = i ∧ w.category = 2)) := by
  by_cases hk : k = i
  · subst hk
    left
    refine ⟨rfl, ?_⟩
    unfold lset1 at h
    exact Option.some.inj (set_gs h)
  · right
    refine ⟨hk, ?_⟩
    unfold lset1 at h
    rw [List.getElem?_set_ne (Ne.symm hk)] at h
    cases i with
    | zero => exact ⟨h, fun z => by omega⟩
    | succ j =>
      simp only at h
      by_cases hc : catAt L j = true
      · rw [if_pos hc] at h
        by_cases hkj : k = j
        · subst hkj
          cases set_gs h
        · rw [List.getElem?_set_ne (Ne.symm hkj)] at h
          exact ⟨h, fun z => hkj (by omega)⟩
      · rw [if_neg hc] at h
        refine ⟨h, fun z => hc ?_⟩
        have : k = j := by omega
        subst this
        unfold catAt
        rw [h]
        simp [z.2]
theorem LR.st1 {ls : Array Slot} {L : List (Option Value)} {i : Nat} {v : Value} (h : LR ls L) (hi : i < ls.size) (hc : v.category = 1) : ∃ ls', storeLocals ls i v = some ls' ∧ LR ls' (lset1 L i v) ∧ ls'.size = ls.size := by
  obtain ⟨ls', e, h'⟩ := lv_store1 (l := []) (v := v) (nL := ls.size) ⟨rfl, h.1, fun q hq => by cases hq⟩ hi hc
  refine ⟨ls', e, ⟨h'.2.1, fun k w hw => ?_⟩, h'.1⟩
  rcases lset1_get hw with ⟨rfl, rfl⟩ | ⟨h1, h2, h3⟩
  · exact h'.2.2 (k, w) List.mem_cons_self
  · obtain ⟨ls2, e2, h2'⟩ := lv_store1 (l := [(k, w)]) (v := v) (nL := ls.size) ⟨rfl, h.1, fun q hq => by
      rw [List.mem_singleton.mp hq]; exact h.2 k w h2⟩ hi hc
    cases Option.some.inj (e.symm.trans e2)
    refine h2'.2.2 (k, w) (List.mem_cons_of_mem _ (List.mem_filter.mpr ⟨List.mem_singleton.mpr rfl, ?_⟩))
    simp only [Bool.and_eq_true, Bool.not_eq_true', beq_eq_false_iff_ne, Bool.and_eq_false_imp, beq_iff_eq]
    exact ⟨h1, fun z1 z2 => h3 ⟨z1, by simpa using z2⟩⟩
theorem LR.st2 {ls : Array Slot} {L : List (Option Value)} {i : Nat} {v : Value} (h : LR ls L) (hi : i + 1 < ls.size) (hc : v.category = 2) : ∃ ls', storeLocals ls i v = some ls' ∧ LR ls' (lset2 L i v) ∧ ls'.size = ls.size := by
  obtain ⟨ls', e, h'⟩ := lv_store2 (l := []) (v := v) (nL := ls.size) ⟨rfl, h.1, fun q hq => by cases hq⟩ hi hc
  refine ⟨ls', e, ⟨h'.2.1, fun k w hw => ?_⟩, h'.1⟩
  have hk : k ≠ i + 1 := by
    intro hk
    subst hk
    unfold lset2 at hw
    cases set_gs hw
  unfold lset2 at hw
  rw [List.getElem?_set_ne (Ne.symm hk)] at hw
  rcases lset1_get hw with ⟨rfl, rfl⟩ | ⟨h1, h2, h3⟩
  · exact h'.2.2 (k, w) List.mem_cons_self
  · obtain ⟨ls2, e2, h2'⟩ := lv_store2 (l := [(k, w)]) (v := v) (nL := ls.size) ⟨rfl, h.1, fun q hq => by
      rw [List.mem_singleton.mp hq]; exact h.2 k w h2⟩ hi hc
    cases Option.some.inj (e.symm.trans e2)
    refine h2'.2.2 (k, w) (List.mem_cons_of_mem _ (List.mem_filter.mpr ⟨List.mem_singleton.mpr rfl, ?_⟩))
    simp only [Bool.and_eq_true, Bool.not_eq_true', beq_eq_false_iff_ne, Bool.and_eq_false_imp, beq_iff_eq]
    exact ⟨h1, hk, fun z1 z2 => h3 ⟨z1, by simpa using z2⟩⟩
-- the judgement
def VW (G : Gt) (F : Ft) (Q : State → Prop) (H : Heap) (locs : List Loc) (cells slots : Nat) (g : JFrame) : Prop :=
  W F.1 G.1 F.2.1 (fR F) (fS F) (fM F) (fA F) (fB F) (fMe F) (fC F) H locs cells slots Q g
def V (G : Gt) (F : Ft) (Q : State → Prop) (kc ks pc : Nat) (L : List (Option Value)) (st : List Value) (h : Hp) : Prop :=
  ∀ (H : Heap) (locs : List Loc) (ls : Array Slot) (cells slots : Nat), Rp G h H → va_S (gF G) (fS F).heap H locs → LR ls L → ls.size = (fC F).maxLocals → cells + kc ≤ (fR F).cells → slots + ks ≤ (fR F).slots → VW G F Q H locs cells slots (F0 (fM F) pc ls st)
def VX (G : Gt) (F : Ft) (Q : State → Prop) (kc ks pc : Nat) (L : List (Option Value)) (E : String) (h : Hp) : Prop :=
  ∀ (H : Heap) (locs : List Loc) (ls : Array Slot) (rest : List Value) (cells slots : Nat) (q : Addr) (ce : Cell), Rp G h H → va_S (gF G) (fS F).heap H locs → LR ls L → ls.size = (fC F).maxLocals → cells + kc ≤ (fR F).cells → slots + ks ≤ (fR F).slots → H[q]? = some ce → ce.vm = .none → (fS F).vm.findClass E = some ce.cls →
    vx_W F.1 G.1 F.2.1 (fR F) (fS F) (fM F) (fA F) (fB F) (fMe F) (fC F) H locs cells slots Q (F0 (fM F) pc ls rest) q
theorem V.weak {G : Gt} {F : Ft} {Q : State → Prop} {kc ks pc : Nat} {L : List (Option Value)} {st : List Value} {h h' : Hp} (hw : ∀ a c, h' a = some c → h a = some c) (k : V G F Q kc ks pc L st h') : V G F Q kc ks pc L st h :=
  fun H locs ls cells slots hR => k H locs ls cells slots (hR.weak hw)
theorem V.less {G : Gt} {F : Ft} {Q : State → Prop} {kc ks kc' ks' pc : Nat} {L : List (Option Value)} {st : List Value} {h : Hp} (h1 : kc' ≤ kc) (h2 : ks' ≤ ks) (k : V G F Q kc' ks' pc L st h) : V G F Q kc ks pc L st h :=
  fun H locs ls cells slots hR hS hL hz q1 q2 => k H locs ls cells slots hR hS hL hz (by omega) (by omega)
/-- forgetting locals -/
theorem V.loc {G : Gt} {F : Ft} {Q : State → Prop} {kc ks pc : Nat} {L L' : List (Option Value)} {st : List Value} {h : Hp} (hL' : ∀ (i : Nat) (v : Value), L'[i]? = some (some v) → L[i]? = some (some v)) (k : V G F Q kc ks pc L' st h) : V G F Q kc ks pc L st h :=
  fun H locs ls cells slots hR hS hL => k H locs ls cells slots hR hS ⟨hL.1, fun i v hv => hL.2 i v (hL' i v hv)⟩
