/-! ===== pure instructions: one step as a function, and a run of them ===== -/
/-- the constant that an instruction holds is the value v -/
def okc (i : Instr) (v : Value) : Bool := match i with
  | .iconst n => decide (v = .int (Int32.ofInt n))
  | .bipush n => decide (v = .int (Int8.ofInt n).toInt32)
  | .sipush n => decide (v = .int (Int16.ofInt n).toInt32)
  | .lconst n => decide (v = .long (Int64.ofNat (n : Nat)))
  | .iinc _ n => decide (v = .int (Int32.ofInt n))
  | _ => true
def npc (i : Instr) (len pc : Nat) : Nat := match i with
  | .goto off => ((pc : Int) + off).toNat
  | _ => pc + len
def okn (i : Instr) (pc : Nat) : Bool := match i with
  | .goto off => decide (0 ≤ (pc : Int) + off)
  | _ => true
def okseg (cc : ByteArray) : Nat → List (Instr × Nat × Value) → Bool
  | _, [] => true
  | pc, (i, len, v) :: r => decide (decode cc pc = .ok (i, len)) && (okc i v && (okn i pc && okseg cc (npc i len pc) r))
abbrev Cf : Type := List (Option Value) × List Value
def pld (L : List (Option Value)) (st : List Value) (i : Nat) : Option Cf := match L[i]? with
  | some (some v) => some (L, v :: st)
  | _ => none
def pstep (i : Instr) (len : Nat) (cv : Value) (nL : Nat) (L : List (Option Value)) (st : List Value) : Option Cf := match i, len with
  | .iconst _, 1 => some (L, cv :: st)
  | .bipush _, 2 => some (L, cv :: st)
  | .sipush _, 3 => some (L, cv :: st)
  | .lconst _, 1 => some (L, cv :: st)
  | .aconst_null, 1 => some (L, .null :: st)
  | .iload_n k, 1 => match L[(k : Nat)]? with
    | some (some (.int x)) => some (L, .int x :: st)
    | _ => none
  | .iload k, 2 => match L[k]? with
    | some (some (.int x)) => some (L, .int x :: st)
    | _ => none
  | .lload_n k, 1 => match L[(k : Nat)]? with
    | some (some (.long x)) => some (L, .long x :: st)
    | _ => none
  | .lload k, 2 => match L[k]? with
    | some (some (.long x)) => some (L, .long x :: st)
    | _ => none
  | .dload_n k, 1 => match L[(k : Nat)]? with
    | some (some (.double x)) => some (L, .double x :: st)
    | _ => none
  | .dload k, 2 => match L[k]? with
    | some (some (.double x)) => some (L, .double x :: st)
    | _ => none
  | .aload_n k, 1 => match L[(k : Nat)]? with
    | some (some (.ref x)) => some (L, .ref x :: st)
    | some (some .null) => some (L, .null :: st)
    | _ => none
  | .aload k, 2 => match L[k]? with
    | some (some (.ref x)) => some (L, .ref x :: st)
    | some (some .null) => some (L, .null :: st)
    | _ => none
  | .istore_n k, 1 => match st with
    | .int x :: r => if (k : Nat) < nL then some (lset1 L k (.int x), r) else none
    | _ => none
  | .istore k, 2 => match st with
    | .int x :: r => if k < nL then some (lset1 L k (.int x), r) else none
    | _ => none
  | .astore_n k, 1 => match st with
    | .ref x :: r => if (k : Nat) < nL then some (lset1 L k (.ref x), r) else none
    | .null :: r => if (k : Nat) < nL then some (lset1 L k .null, r) else none
    | _ => none
  | .astore k, 2 => match st with
    | .ref x :: r => if k < nL then some (lset1 L k (.ref x), r) else none
    | .null :: r => if k < nL then some (lset1 L k .null, r) else none
    | _ => none
  | .lstore_n k, 1 => match st with
    | .long x :: r => if (k : Nat) + 1 < nL then some (lset2 L k (.long x), r) else none
    | _ => none
  | .lstore k, 2 => match st with
    | .long x :: r => if k + 1 < nL then some (lset2 L k (.long x), r) else none
    | _ => none
  | .dstore_n k, 1 => match st with
    | .double x :: r => if (k : Nat) + 1 < nL then some (lset2 L k (.double x), r) else none
    | _ => none
  | .dstore k, 2 => match st with
    | .double x :: r => if k + 1 < nL then some (lset2 L k (.double x), r) else none
    | _ => none
  | .iinc k _, 3 => match L[k]?, cv with
    | some (some (.int x)), .int y => if k < nL then some (lset1 L k (.int (x + y)), st) else none
    | _, _ => none
  | .iadd, 1 => match st with
    | .int y :: .int x :: r => some (L, .int (x + y) :: r)
    | _ => none
  | .isub, 1 => match st with
    | .int y :: .int x :: r => some (L, .int (x - y) :: r)
    | _ => none
  | .imul, 1 => match st with
    | .int y :: .int x :: r => some (L, .int (x * y) :: r)
    | _ => none
  | .iand, 1 => match st with
    | .int y :: .int x :: r => some (L, .int (x &&& y) :: r)
    | _ => none
  | .ior, 1 => match st with
    | .int y :: .int x :: r => some (L, .int (x ||| y) :: r)
    | _ => none
  | .ixor, 1 => match st with
    | .int y :: .int x :: r => some (L, .int (x ^^^ y) :: r)
    | _ => none
  | .ishl, 1 => match st with
    | .int y :: .int x :: r => some (L, .int (x <<< (y &&& 31)) :: r)
    | _ => none
  | .ishr, 1 => match st with
    | .int y :: .int x :: r => some (L, .int (x >>> (y &&& 31)) :: r)
    | _ => none
  | .iushr, 1 => match st with
    | .int y :: .int x :: r => some (L, .int (x.toUInt32 >>> (y.toUInt32 &&& Int32.toUInt32 31)).toInt32 :: r)
    | _ => none
  | .ineg, 1 => match st with
    | .int x :: r => some (L, .int (-x) :: r)
    | _ => none
  | .i2l, 1 => match st with
    | .int x :: r => some (L, .long x.toInt64 :: r)
    | _ => none
  | .i2d, 1 => match st with
    | .int x :: r => some (L, .double (FP.i2d x) :: r)
    | _ => none
  | .ladd, 1 => match st with
    | .long y :: .long x :: r => some (L, .long (x + y) :: r)
    | _ => none
  | .lmul, 1 => match st with
    | .long y :: .long x :: r => some (L, .long (x * y) :: r)
    | _ => none
  | .lcmp, 1 => match st with
    | .long y :: .long x :: r => some (L, .int (lg_cmp x y) :: r)
    | _ => none
  | .dcmp op, 1 => match st with
    | .double y :: .double x :: r => some (L, .int (Op.cmpValue (FP.dcmp x y) op) :: r)
    | _ => none
  | .dup, 1 => match st with
    | v :: r => if v.category = 1 then some (L, v :: v :: r) else none
    | _ => none
  | .dup2, 1 => match st with
    | v :: w :: r => if v.category = 1 ∧ w.category = 1 then some (L, v :: w :: v :: w :: r) else none
    | _ => none
  | .pop, 1 => match st with
    | v :: r => if v.category = 1 then some (L, r) else none
    | _ => none
  | .goto _, 3 => some (L, st)
  | _, _ => none
def prun (nL : Nat) : List (Instr × Nat × Value) → Nat → List (Option Value) → List Value → Option (Nat × Cf)
  | [], pc, L, st => some (pc, L, st)
  | (i, len, v) :: r, pc, L, st => match pstep i len v nL L st with
    | some (L', st') => prun nL r (npc i len pc) L' st'
    | none => none
set_option maxHeartbeats 4000000 in
theorem V.step1 {G : Gt} {F : Ft} {Q : State → Prop} {own : String} {cc : ByteArray} {nL : Nat} {ret : Option FieldType} {kc ks pc : Nat} {L L' : List (Option Value)} {st st' : List Value} {h : Hp} {i : Instr} {len : Nat} {cv : Value} (hF : Ok G F own cc nL ret) (hd : decode cc pc = .ok (i, len)) (hc : okc i cv = true) (hn : okn i pc = true) (hp : pstep i len cv nL L st = some (L', st')) (k : V G F Q kc ks (npc i len pc) L' st' h) : V G F Q kc ks pc L st h := by
  intro H locs ls cells slots hR hS hL hz h1 h2
  obtain ⟨hx, hb, hml, hr, hown, hlk, hW⟩ := hF
  have hsz : ls.size = nL := hz.trans hml
  have key : ∀ ls', LR ls' L' → ls'.size = ls.size → VW G F Q H locs cells slots (F0 (fM F) (npc i len pc) ls' st') := fun ls' e1 e2 => k H locs ls' cells slots hR hS e1 (e2.trans hz) h1 h2
  have same := fun (e : L' = L) => key ls (e ▸ hL) rfl
  clear k
  unfold pstep at hp
  split at hp
  · simp only [okc, decide_eq_true_eq] at hc
    subst hc
    simp only [Option.some.injEq, Prod.mk.injEq] at hp; obtain ⟨rfl, rfl⟩ := hp
    exact lv_iconst hx hb hd rfl (same rfl)
  · simp only [okc, decide_eq_true_eq] at hc
    subst hc
    simp only [Option.some.injEq, Prod.mk.injEq] at hp; obtain ⟨rfl, rfl⟩ := hp
    exact lv_bipush hx hb hd rfl (same rfl)
  · simp only [okc, decide_eq_true_eq] at hc
    subst hc
    simp only [Option.some.injEq, Prod.mk.injEq] at hp; obtain ⟨rfl, rfl⟩ := hp
    exact lv_sipush hx hb hd rfl (same rfl)
  · simp only [okc, decide_eq_true_eq] at hc
    subst hc
    simp only [Option.some.injEq, Prod.mk.injEq] at hp; obtain ⟨rfl, rfl⟩ := hp
    exact lv_lconst hx hb hd rfl (same rfl)
  · simp only [Option.some.injEq, Prod.mk.injEq] at hp; obtain ⟨rfl, rfl⟩ := hp
    exact lv_null hx hb hd (same rfl)
  · split at hp
    · next x he =>
      simp only [Option.some.injEq, Prod.mk.injEq] at hp; obtain ⟨rfl, rfl⟩ := hp
      exact lv_iload_n hx hb hd rfl (hL.2 _ _ he) (same rfl)
    · cases hp
  · split at hp
    · next x he =>
      simp only [Option.some.injEq, Prod.mk.injEq] at hp; obtain ⟨rfl, rfl⟩ := hp
      exact lv_iload hx hb hd (hL.2 _ _ he) (same rfl)
    · cases hp
  · split at hp
    · next x he =>
      simp only [Option.some.injEq, Prod.mk.injEq] at hp; obtain ⟨rfl, rfl⟩ := hp
      exact lv_lload_n hx hb hd rfl (hL.2 _ _ he) (same rfl)
    · cases hp
  · split at hp
    · next x he =>
      simp only [Option.some.injEq, Prod.mk.injEq] at hp; obtain ⟨rfl, rfl⟩ := hp
      exact lv_lload hx hb hd (hL.2 _ _ he) (same rfl)
    · cases hp
  · split at hp
    · next x he =>
      simp only [Option.some.injEq, Prod.mk.injEq] at hp; obtain ⟨rfl, rfl⟩ := hp
      exact lv_dload_n hx hb hd rfl (hL.2 _ _ he) (same rfl)
    · cases hp
  · split at hp
    · next x he =>
      simp only [Option.some.injEq, Prod.mk.injEq] at hp; obtain ⟨rfl, rfl⟩ := hp
      exact lv_dload hx hb hd (hL.2 _ _ he) (same rfl)
    · cases hp
  · split at hp
    · next x he =>
      simp only [Option.some.injEq, Prod.mk.injEq] at hp; obtain ⟨rfl, rfl⟩ := hp
      exact lv_aload_n hx hb hd rfl (hL.2 _ _ he) (same rfl)
    · next he =>
      simp only [Option.some.injEq, Prod.mk.injEq] at hp; obtain ⟨rfl, rfl⟩ := hp
      exact lv_aload_nN hx hb hd rfl (hL.2 _ _ he) (same rfl)
    · cases hp
  · split at hp
    · next x he =>
      simp only [Option.some.injEq, Prod.mk.injEq] at hp; obtain ⟨rfl, rfl⟩ := hp
      exact lv_aload hx hb hd (hL.2 _ _ he) (same rfl)
    · next he =>
      simp only [Option.some.injEq, Prod.mk.injEq] at hp; obtain ⟨rfl, rfl⟩ := hp
      exact lv_aloadN hx hb hd (hL.2 _ _ he) (same rfl)
    · cases hp
  · split at hp
    · next x r =>
      split at hp
      · next hlt =>
        simp only [Option.some.injEq, Prod.mk.injEq] at hp; obtain ⟨rfl, rfl⟩ := hp
        obtain ⟨ls', e1, e2, e3⟩ := hL.st1 (v := .int x) (Nat.lt_of_lt_of_eq hlt hsz.symm) rfl
        intro T hT X
        obtain ⟨t, a, b⟩ := key ls' e2 e3 T hT X
        refine ⟨t, ?_, b⟩
        jvm_step X.here [X.here.top, ↓top_set X.here.top, hx, hb, hd, e1]
        exact a
      · cases hp
    · cases hp
  · split at hp
    · next x r =>
      split at hp
      · next hlt =>
        simp only [Option.some.injEq, Prod.mk.injEq] at hp; obtain ⟨rfl, rfl⟩ := hp
        obtain ⟨ls', e1, e2, e3⟩ := hL.st1 (v := .int x) (Nat.lt_of_lt_of_eq hlt hsz.symm) rfl
        intro T hT X
        obtain ⟨t, a, b⟩ := key ls' e2 e3 T hT X
        refine ⟨t, ?_, b⟩
        jvm_step X.here [X.here.top, ↓top_set X.here.top, hx, hb, hd, e1]
        exact a
      · cases hp
    · cases hp
  · split at hp
    · next x r =>
      split at hp
      · next hlt =>
        simp only [Option.some.injEq, Prod.mk.injEq] at hp; obtain ⟨rfl, rfl⟩ := hp
        obtain ⟨ls', e1, e2, e3⟩ := hL.st1 (v := .ref x) (Nat.lt_of_lt_of_eq hlt hsz.symm) rfl
        intro T hT X
        obtain ⟨t, a, b⟩ := key ls' e2 e3 T hT X
        refine ⟨t, ?_, b⟩
        jvm_step X.here [X.here.top, ↓top_set X.here.top, hx, hb, hd, e1, Value.isRef]
        exact a
      · cases hp
    · next r =>
      split at hp
      · next hlt =>
        simp only [Option.some.injEq, Prod.mk.injEq] at hp; obtain ⟨rfl, rfl⟩ := hp
        obtain ⟨ls', e1, e2, e3⟩ := hL.st1 (v := .null) (Nat.lt_of_lt_of_eq hlt hsz.symm) rfl
        intro T hT X
        obtain ⟨t, a, b⟩ := key ls' e2 e3 T hT X
        refine ⟨t, ?_, b⟩
        jvm_step X.here [X.here.top, ↓top_set X.here.top, hx, hb, hd, e1, Value.isRef]
        exact a
      · cases hp
    · cases hp
  · split at hp
    · next x r =>
      split at hp
      · next hlt =>
        simp only [Option.some.injEq, Prod.mk.injEq] at hp; obtain ⟨rfl, rfl⟩ := hp
        obtain ⟨ls', e1, e2, e3⟩ := hL.st1 (v := .ref x) (Nat.lt_of_lt_of_eq hlt hsz.symm) rfl
        intro T hT X
        obtain ⟨t, a, b⟩ := key ls' e2 e3 T hT X
        refine ⟨t, ?_, b⟩
        jvm_step X.here [X.here.top, ↓top_set X.here.top, hx, hb, hd, e1, Value.isRef]
        exact a
      · cases hp
    · next r =>
      split at hp
      · next hlt =>
        simp only [Option.some.injEq, Prod.mk.injEq] at hp; obtain ⟨rfl, rfl⟩ := hp
        obtain ⟨ls', e1, e2, e3⟩ := hL.st1 (v := .null) (Nat.lt_of_lt_of_eq hlt hsz.symm) rfl
        intro T hT X
        obtain ⟨t, a, b⟩ := key ls' e2 e3 T hT X
        refine ⟨t, ?_, b⟩
        jvm_step X.here [X.here.top, ↓top_set X.here.top, hx, hb, hd, e1, Value.isRef]
        exact a
      · cases hp
    · cases hp
  · split at hp
    · next x r =>
      split at hp
      · next hlt =>
        simp only [Option.some.injEq, Prod.mk.injEq] at hp; obtain ⟨rfl, rfl⟩ := hp
        obtain ⟨ls', e1, e2, e3⟩ := hL.st2 (v := .long x) (Nat.lt_of_lt_of_eq hlt hsz.symm) rfl
        intro T hT X
        obtain ⟨t, a, b⟩ := key ls' e2 e3 T hT X
        refine ⟨t, ?_, b⟩
        jvm_step X.here [X.here.top, ↓top_set X.here.top, hx, hb, hd, e1]
        exact a
      · cases hp
    · cases hp
  · split at hp
    · next x r =>
      split at hp
      · next hlt =>
        simp only [Option.some.injEq, Prod.mk.injEq] at hp; obtain ⟨rfl, rfl⟩ := hp
        obtain ⟨ls', e1, e2, e3⟩ := hL.st2 (v := .long x) (Nat.lt_of_lt_of_eq hlt hsz.symm) rfl
        intro T hT X
        obtain ⟨t, a, b⟩ := key ls' e2 e3 T hT X
        refine ⟨t, ?_, b⟩
        jvm_step X.here [X.here.top, ↓top_set X.here.top, hx, hb, hd, e1]
        exact a
      · cases hp
    · cases hp
  · split at hp
    · next x r =>
      split at hp
      · next hlt =>
        simp only [Option.some.injEq, Prod.mk.injEq] at hp; obtain ⟨rfl, rfl⟩ := hp
        obtain ⟨ls', e1, e2, e3⟩ := hL.st2 (v := .double x) (Nat.lt_of_lt_of_eq hlt hsz.symm) rfl
        intro T hT X
        obtain ⟨t, a, b⟩ := key ls' e2 e3 T hT X
        refine ⟨t, ?_, b⟩
        jvm_step X.here [X.here.top, ↓top_set X.here.top, hx, hb, hd, e1]
        exact a
      · cases hp
    · cases hp
  · split at hp
    · next x r =>
      split at hp
      · next hlt =>
        simp only [Option.some.injEq, Prod.mk.injEq] at hp; obtain ⟨rfl, rfl⟩ := hp
        obtain ⟨ls', e1, e2, e3⟩ := hL.st2 (v := .double x) (Nat.lt_of_lt_of_eq hlt hsz.symm) rfl
        intro T hT X
        obtain ⟨t, a, b⟩ := key ls' e2 e3 T hT X
        refine ⟨t, ?_, b⟩
        jvm_step X.here [X.here.top, ↓top_set X.here.top, hx, hb, hd, e1]
        exact a
      · cases hp
    · cases hp
  · split at hp
    · next x y he =>
      simp only [okc, decide_eq_true_eq, Value.int.injEq] at hc
      subst hc
      have hg := hL.2 _ _ he
      split at hp
      · next hlt =>
        simp only [Option.some.injEq, Prod.mk.injEq] at hp; obtain ⟨rfl, rfl⟩ := hp
        obtain ⟨ls', e1, e2, e3⟩ := hL.st1 (v := .int (x + Int32.ofInt _)) (Nat.lt_of_lt_of_eq hlt hsz.symm) rfl
        intro T hT X
        obtain ⟨t, a, b⟩ := key ls' e2 e3 T hT X
        refine ⟨t, ?_, b⟩
        jvm_step X.here [X.here.top, ↓top_set X.here.top, hx, hb, hd, e1, hg]
        exact a
      · cases hp
    · cases hp
  · split at hp
    · simp only [Option.some.injEq, Prod.mk.injEq] at hp; obtain ⟨rfl, rfl⟩ := hp
      exact lv_iadd hx hb hd (same rfl)
    · cases hp
  · split at hp
    · simp only [Option.some.injEq, Prod.mk.injEq] at hp; obtain ⟨rfl, rfl⟩ := hp
      exact lv_isub hx hb hd (same rfl)
    · cases hp
  · split at hp
    · simp only [Option.some.injEq, Prod.mk.injEq] at hp; obtain ⟨rfl, rfl⟩ := hp
      exact lv_imul hx hb hd (same rfl)
    · cases hp
  · split at hp
    · simp only [Option.some.injEq, Prod.mk.injEq] at hp; obtain ⟨rfl, rfl⟩ := hp
      exact lv_iand hx hb hd (same rfl)
    · cases hp
  · split at hp
    · simp only [Option.some.injEq, Prod.mk.injEq] at hp; obtain ⟨rfl, rfl⟩ := hp
      exact lv_ior hx hb hd (same rfl)
    · cases hp
  · split at hp
    · simp only [Option.some.injEq, Prod.mk.injEq] at hp; obtain ⟨rfl, rfl⟩ := hp
      exact lv_ixor hx hb hd (same rfl)
    · cases hp
  · split at hp
    · simp only [Option.some.injEq, Prod.mk.injEq] at hp; obtain ⟨rfl, rfl⟩ := hp
      exact lv_ishl hx hb hd (same rfl)
    · cases hp
  · split at hp
    · simp only [Option.some.injEq, Prod.mk.injEq] at hp; obtain ⟨rfl, rfl⟩ := hp
      exact lv_ishr hx hb hd (same rfl)
    · cases hp
  · split at hp
    · simp only [Option.some.injEq, Prod.mk.injEq] at hp; obtain ⟨rfl, rfl⟩ := hp
      exact lv_iushr hx hb hd rfl (same rfl)
    · cases hp
  · split at hp
    · simp only [Option.some.injEq, Prod.mk.injEq] at hp; obtain ⟨rfl, rfl⟩ := hp
      exact lv_ineg hx hb hd (same rfl)
    · cases hp
  · split at hp
    · simp only [Option.some.injEq, Prod.mk.injEq] at hp; obtain ⟨rfl, rfl⟩ := hp
      exact lv_i2l hx hb hd rfl (same rfl)
    · cases hp
  · split at hp
    · simp only [Option.some.injEq, Prod.mk.injEq] at hp; obtain ⟨rfl, rfl⟩ := hp
      exact lv_i2d hx hb hd (same rfl)
    · cases hp
  · split at hp
    · simp only [Option.some.injEq, Prod.mk.injEq] at hp; obtain ⟨rfl, rfl⟩ := hp
      exact lv_ladd hx hb hd (same rfl)
    · cases hp
  · split at hp
    · simp only [Option.some.injEq, Prod.mk.injEq] at hp; obtain ⟨rfl, rfl⟩ := hp
      exact lv_lmul hx hb hd (same rfl)
    · cases hp
  · split at hp
    · simp only [Option.some.injEq, Prod.mk.injEq] at hp; obtain ⟨rfl, rfl⟩ := hp
      exact W.lcmp hx hb hd (same rfl)
    · cases hp
  · split at hp
    · simp only [Option.some.injEq, Prod.mk.injEq] at hp; obtain ⟨rfl, rfl⟩ := hp
      exact lv_dcmp hx hb hd (same rfl)
    · cases hp
  · split at hp
    · split at hp
      · next hv =>
        simp only [Option.some.injEq, Prod.mk.injEq] at hp; obtain ⟨rfl, rfl⟩ := hp
        exact lv_dup hx hb hd hv (same rfl)
      · cases hp
    · cases hp
  · split at hp
    · split at hp
      · next hv =>
        simp only [Option.some.injEq, Prod.mk.injEq] at hp; obtain ⟨rfl, rfl⟩ := hp
        exact lv_dup2_11 hx hb hd hv.1 hv.2 (same rfl)
      · cases hp
    · cases hp
  · split at hp
    · split at hp
      · next hv =>
        simp only [Option.some.injEq, Prod.mk.injEq] at hp; obtain ⟨rfl, rfl⟩ := hp
        exact lv_pop hx hb hd hv (same rfl)
      · cases hp
    · cases hp
  · simp only [Option.some.injEq, Prod.mk.injEq] at hp; obtain ⟨rfl, rfl⟩ := hp
    simp only [okn, decide_eq_true_eq] at hn
    exact lv_goto hx hb hd (Int.toNat_of_nonneg hn).symm (same rfl)
  · cases hp
