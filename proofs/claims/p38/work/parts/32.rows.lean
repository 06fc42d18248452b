/-! ===== TallyWaxLaw$Sim: rows of lines, and its small methods ===== -/
theorem upd_n {f : Nat → Int32} {k j : Nat} {v : Int32} (h : j ≠ k) : upd f k v j = f j := if_neg h
theorem V.mono {G : Gt} {F : Ft} {Q Q' : State → Prop} {kc ks pc : Nat} {L : List (Option Value)} {st : List Value} {h : Hp} (hq : ∀ t, Q t → Q' t) (k : V G F Q kc ks pc L st h) : V G F Q' kc ks pc L st h := by
  intro H locs ls cells slots hR hS hL hz h1 h2 T hT X
  obtain ⟨t, a1, b1⟩ := k H locs ls cells slots hR hS hL hz h1 h2 T hT X
  exact ⟨t, a1, hq t b1⟩
theorem fin.mono {G : Gt} {F : Ft} {po po' : Option Value → Hp → Prop} {px : String → Hp → Prop} (hp : ∀ v h', po v h' → po' v h') : ∀ t, fin G F po px t → fin G F po' px t := by
  rintro t ⟨o, h1, h2, h3⟩
  refine ⟨o, h1, h2, ?_⟩
  rcases h3 with ⟨⟨v, h', e1, e2, e3, e4⟩, h5⟩ | h3
  · exact Or.inl ⟨⟨v, h', e1, hp v h' e2, e3, e4⟩, h5⟩
  · exact Or.inr h3
theorem V.post {G : Gt} {F : Ft} {po po' : Option Value → Hp → Prop} {px : String → Hp → Prop} {kc ks pc : Nat} {L : List (Option Value)} {st : List Value} {h : Hp} (hp : ∀ v h', po v h' → po' v h') (k : V G F (fin G F po px) kc ks pc L st h) : V G F (fin G F po' px) kc ks pc L st h := V.mono (fin.mono hp) k
abbrev Ex (h h' : Hp) : Prop := ∀ x c, h x = some c → h' x = some c
theorem Ex.tr {h h1 h2 : Hp} (p : Ex h h1) (q : Ex h1 h2) : Ex h h2 := fun x c e => q x c (p x c e)
theorem Ex.new {h h' : Hp} {q : Nat} (hq : h q = none) (hk : ∀ x, x ≠ q → h' x = h x) : Ex h h' := fun x c e => (hk x (ne_new e hq)).trans e
def Row (h : Hp) (a : Nat) (d c m w : Int32) : Prop := ∃ f : Nat → Int32, h a = some (.inl (0, 4, .inl f)) ∧ f 0 = d ∧ f 1 = c ∧ f 2 = m ∧ f 3 = w
theorem Row.mv {h h' : Hp} {a : Nat} {d c m w : Int32} (hr : Row h a d c m w) (e : h' a = h a) : Row h' a d c m w := by
  obtain ⟨f, e1, e2⟩ := hr
  exact ⟨f, e.trans e1, e2⟩
theorem Row.ex {h h' : Hp} {a : Nat} {d c m w : Int32} (hr : Row h a d c m w) (e : Ex h h') : Row h' a d c m w := by
  obtain ⟨f, e1, e2⟩ := hr
  exact ⟨f, e _ _ e1, e2⟩
theorem Row.ne {h : Hp} {a b : Nat} {d c m w : Int32} {y : va_E} (hr : Row h a d c m w) (hb : h b = some y) (hy : ∀ f : Nat → Int32, y ≠ .inl (0, 4, .inl f)) : a ≠ b := by
  rintro rfl
  obtain ⟨f, e1, -⟩ := hr
  exact hy f (Option.some.inj (hb.symm.trans e1))
/-- an array of n rows, at a, the rows at R -/
def Rows (h : Hp) (a n : Nat) (R : Nat → Nat) (D C M W : Nat → Int32) : Prop := (∃ g : Nat → Option Nat, h a = some (.inl (2, n, .inr (.inr (.inr (.inr g))))) ∧ ∀ j, j < n → g j = some (R j)) ∧ ∀ j, j < n → Row h (R j) (D j) (C j) (M j) (W j)
theorem Rows.mv {h h' : Hp} {a n : Nat} {R : Nat → Nat} {D C M W : Nat → Int32} (hr : Rows h a n R D C M W) (e : h' a = h a) (e2 : ∀ j, j < n → h' (R j) = h (R j)) : Rows h' a n R D C M W := by
  obtain ⟨⟨g, e1, e3⟩, h2⟩ := hr
  exact ⟨⟨g, e.trans e1, e3⟩, fun j hj => (h2 j hj).mv (e2 j hj)⟩
theorem Rows.ex {h h' : Hp} {a n : Nat} {R : Nat → Nat} {D C M W : Nat → Int32} (hr : Rows h a n R D C M W) (e : Ex h h') : Rows h' a n R D C M W := by
  obtain ⟨⟨g, e1, e3⟩, h2⟩ := hr
  exact ⟨⟨g, e _ _ e1, e3⟩, fun j hj => (h2 j hj).ex e⟩
theorem Rows.cg {h : Hp} {a n : Nat} {R : Nat → Nat} {D C M W D' C' M' W' : Nat → Int32} (hr : Rows h a n R D C M W) (e : ∀ j, j < n → D j = D' j ∧ C j = C' j ∧ M j = M' j ∧ W j = W' j) : Rows h a n R D' C' M' W' := by
  refine ⟨hr.1, fun j hj => ?_⟩
  obtain ⟨e1, e2, e3, e4⟩ := e j hj
  rw [← e1, ← e2, ← e3, ← e4]
  exact hr.2 j hj
abbrev bl (v : Int32) (n : Nat) : Nat := (v &&& 2147483647).toNatClampNeg % n
theorem mx_nI (v : Int32) : v &&& 2147483647 = nI (v &&& 2147483647).toNatClampNeg ∧ (v &&& 2147483647).toNatClampNeg < 2 ^ 31 := by
  have h0 : 0 ≤ (v &&& 2147483647).toInt := by
    have hm : (v &&& 2147483647).toBitVec.msb = false := by
      show (v.toBitVec &&& (2147483647 : Int32).toBitVec).msb = false
      rw [BitVec.msb_and, show (2147483647 : Int32).toBitVec.msb = false from by decide +kernel, Bool.and_false]
    rw [BitVec.msb_eq_toInt] at hm
    exact Int.not_lt.mp (of_decide_eq_false hm)
  rcases pk_ix (v &&& 2147483647) (n := 2147483647) (by decide) with q | q | ⟨j, hj, e⟩
  · rw [Int32.lt_iff_toInt_lt] at q
    exact absurd q (Int.not_lt.mpr (by simpa using h0))
  · have e : (v &&& 2147483647) = nI 2147483647 := by
      rw [Int32.le_iff_toInt_le, nI_toInt (by decide)] at q
      have := Int32.toInt_lt (v &&& 2147483647)
      refine Int32.toInt_inj.mp ?_
      rw [nI_toInt (by decide)]
      omega
    rw [e, nI_clamp (by decide)]
    exact ⟨rfl, by decide⟩
  · rw [e, nI_clamp (by omega)]
    exact ⟨rfl, by omega⟩
section Si
variable {G : Gt} {h : Hp}
set_option maxHeartbeats 4000000 in
theorem c_L_below (hG : GOk G) (v : Int32) {n : Nat} (h0 : 0 < n) (hn : n < 2 ^ 31) : Ct G yL_below (.code yL_below cL_below 2 (some .int)) 0 0 0 0 [.int v, .int (nI n)] h (is_i (nI (bl v n)) h) pxN := by
  refine Ct.of (by decide +kernel) (Nat.le_of_ble_eq_true rfl) fun F hF hT hN hRm => ?_
  obtain ⟨e1, e2⟩ := mx_nI v
  refine V.run hF [(.iload_n 0, 1, .null)] (pc' := 1) (L' := [some (.int v), some (.int (nI n))]) (st' := [.int v]) (by decide +kernel) rfl ?_
  refine V.ldc hG hF tw_447 (by decide +kernel) ?_
  refine V.run hF [(.iand, 1, .null)] (pc' := 4) (L' := [some (.int v), some (.int (nI n))]) (st' := [.int (v &&& 2147483647)]) (by decide +kernel) rfl ?_
  rw [e1]
  refine V.run hF [(.iload_n 1, 1, .null)] (pc' := 5) (L' := [some (.int v), some (.int (nI n))]) (st' := [.int (nI n), .int (nI (v &&& 2147483647).toNatClampNeg)]) (by decide +kernel) rfl ?_
  refine V.iremN (a := (v &&& 2147483647).toNatClampNeg) (b := n) hF (by decide +kernel) (by omega) (by omega) (by omega) ?_
  exact V.reti hF (by decide +kernel) ⟨rfl, rfl⟩
abbrev wiP (h : Hp) (n b : Nat) (g : Nat → Option Nat) : Option Value → Hp → Prop := fun v h' => ∃ q g', v = some (.ref q) ∧ h q = none ∧ h' q = some (.inl (2, n + 1, .inr (.inr (.inr (.inr g'))))) ∧ (∀ j, j < n → g' j = g j) ∧ g' n = some b ∧ ∀ x, x ≠ q → h' x = h x
set_option maxHeartbeats 4000000 in
theorem c_X4_with (hG : GOk G) {a n b : Nat} {g : Nat → Option Nat} {x : vp_A} (ha : h a = some (.inl (2, n, .inr (.inr (.inr (.inr g)))))) (hg : ∀ j, j < n → ∃ rj y, g j = some rj ∧ h rj = some (.inl (0, y))) (hb : h b = some (.inl (0, x))) (hn : n ≤ 12) :
    Ct G yX4_with (.code yX4_with cX4_with 4 (some (.array (.array .int)))) 0 0 1 13 [.ref a, .ref b] h (wiP h n b g) pxN := by
  refine Ct.of (by decide +kernel) (Nat.le_of_ble_eq_true rfl) fun F hF hT hN hRm => ?_
  refine V.run hF [(.aload_n 0, 1, .null)] (pc' := 1) (L' := [some (.ref a), some (.ref b), none, none]) (st' := [.ref a]) (by decide +kernel) rfl ?_
  refine V.alen hG hF (by decide +kernel) (by decide) ha ?_
  show V G F _ _ _ 2 [some (.ref a), some (.ref b), none, none] [.int (nI n)] h
  refine V.run hF [(.iconst 1, 1, .int 1), (.iadd, 1, .null)] (pc' := 4) (L' := [some (.ref a), some (.ref b), none, none]) (st' := [.int (nI n + 1)]) (by decide +kernel) rfl ?_
  rw [nI_1 n]
  refine V.less (kc' := 0 + 1) (ks' := 0 + (n + 1)) (by omega) (by omega) ?_
  refine V.newA (N := n + 1) hG hF tw_405.1 (by decide +kernel) (by omega) (fun q hq_q => ?_)
  have ne_a_q : a ≠ q := ne_new ha hq_q
  obtain ⟨h_1, gh1⟩ : ∃ z : Hp, z = hset h q (.inl (2, n + 1, .inr (.inr (.inr (.inr (fun _ => none)))))) := ⟨_, rfl⟩
  refine V.hp gh1 ?_
  have gk1 : ∀ zq : Nat, zq ≠ q → h_1 zq = h zq := fun zq hq => by rw [gh1]; exact hset_ne hq
  have gs1 : h_1 q = some (.inl (2, n + 1, .inr (.inr (.inr (.inr (fun _ => none)))))) := by rw [gh1]; exact hset_eq
  have nb : b ≠ q := ne_new hb hq_q
  have loop : ∀ i, i ≤ n → ∀ (hh : Hp) (gg : Nat → Option Nat), hh q = some (.inl (2, n + 1, .inr (.inr (.inr (.inr gg))))) → (∀ j, j < i → gg j = g j) → (∀ x, x ≠ q → hh x = h x) → V G F (fin G F (wiP h n b g) pxN) 0 0 10 [some (.ref a), some (.ref b), some (.ref q), some (.int (nI i))] [] hh := by
    refine lp_up n fun i hi ih hh gg hq hgg hk => ?_
    have ea : hh a = some (.inl (2, n, .inr (.inr (.inr (.inr g))))) := (hk a ne_a_q).trans ha
    refine V.run hF [(.iload_n 3, 1, .null), (.aload_n 0, 1, .null)] (pc' := 12) (L' := [some (.ref a), some (.ref b), some (.ref q), some (.int (nI i))]) (st' := [.ref a, .int (nI i)]) (by decide +kernel) rfl ?_
    refine V.alen hG hF (by decide +kernel) (by decide) ea ?_
    show V G F _ _ _ 13 [some (.ref a), some (.ref b), some (.ref q), some (.int (nI i))] [.int (nI n), .int (nI i)] hh
    refine V.icmpN_ge (i := i) (j := n) hF (off := 15) (tgt := 28) (by decide +kernel) (by decide) (by omega) (by omega) (fun c1 => ?_) (fun c1 => ?_)
    · skip
      refine V.run hF [(.aload_n 2, 1, .null), (.aload_n 0, 1, .null)] (pc' := 30) (L' := [some (.ref a), some (.ref b), some (.ref q), some (.int (nI i))]) (st' := [.ref a, .ref q]) (by decide +kernel) rfl ?_
      refine V.alen hG hF (by decide +kernel) (by decide) ea ?_
      show V G F _ _ _ 31 [some (.ref a), some (.ref b), some (.ref q), some (.int (nI i))] [.int (nI n), .ref q] hh
      refine V.run hF [(.aload_n 1, 1, .null)] (pc' := 32) (L' := [some (.ref a), some (.ref b), some (.ref q), some (.int (nI i))]) (st' := [.ref b, .int (nI n), .ref q]) (by decide +kernel) rfl ?_
      have e : i = n := by omega
      rw [e] at hgg
      refine V.aastAN (j := n) hG hF (by decide) (by decide +kernel) hq ((hk b nb).trans hb) (by omega) (by first | decide | omega) ?_
      obtain ⟨h_2, gh2⟩ : ∃ z : Hp, z = hset hh q (.inl (2, n + 1, .inr (.inr (.inr (.inr (va_up gg n (some b))))))) := ⟨_, rfl⟩
      refine V.hp gh2 ?_
      have gk2 : ∀ zq : Nat, zq ≠ q → h_2 zq = hh zq := fun zq hq => by rw [gh2]; exact hset_ne hq
      have gs2 : h_2 q = some (.inl (2, n + 1, .inr (.inr (.inr (.inr (va_up gg n (some b))))))) := by rw [gh2]; exact hset_eq
      refine V.run hF [(.aload_n 2, 1, .null)] (pc' := 34) (L' := [some (.ref a), some (.ref b), some (.ref q), some (.int (nI i))]) (st' := [.ref q]) (by decide +kernel) rfl ?_
      exact V.retA hF (by decide +kernel) ⟨q, _, rfl, hq_q, gs2, fun j hj => (va_up_ne _ _ (by omega)).trans (hgg j hj), va_up_self _ _ _, fun x hx => (gk2 x hx).trans (hk x hx)⟩
    · skip
      refine V.run hF [(.aload_n 2, 1, .null), (.iload_n 3, 1, .null), (.aload_n 0, 1, .null), (.iload_n 3, 1, .null)] (pc' := 20) (L' := [some (.ref a), some (.ref b), some (.ref q), some (.int (nI i))]) (st' := [.int (nI i), .ref a, .int (nI i), .ref q]) (by decide +kernel) rfl ?_
      obtain ⟨ri, y, e1, e2⟩ := hg i c1
      refine V.aaldS (j := i) (b := ri) hG hF (by decide +kernel) ea (by omega) (by first | decide | omega) e1 ?_
      refine V.aastAN (j := i) hG hF (by decide) (by decide +kernel) hq ((hk ri (ne_new e2 hq_q)).trans e2) (by omega) (by first | decide | omega) ?_
      obtain ⟨h_3, gh3⟩ : ∃ z : Hp, z = hset hh q (.inl (2, n + 1, .inr (.inr (.inr (.inr (va_up gg i (some ri))))))) := ⟨_, rfl⟩
      refine V.hp gh3 ?_
      have gk3 : ∀ zq : Nat, zq ≠ q → h_3 zq = hh zq := fun zq hq => by rw [gh3]; exact hset_ne hq
      have gs3 : h_3 q = some (.inl (2, n + 1, .inr (.inr (.inr (.inr (va_up gg i (some ri))))))) := by rw [gh3]; exact hset_eq
      refine V.run hF [(.iinc 3 1, 3, .int 1), (.goto (-15), 3, .null)] (pc' := 10) (L' := [some (.ref a), some (.ref b), some (.ref q), some (.int ((nI i) + 1))]) (st' := []) (by decide +kernel) rfl ?_
      rw [nI_1 i]
      refine ih c1 _ _ gs3 (fun j hj => ?_) (fun x hx => (gk3 x hx).trans (hk x hx))
      by_cases hj2 : j = i
      · rw [hj2, va_up_self]
        exact e1.symm
      · rw [va_up_ne _ _ hj2]
        exact hgg j (by omega)
  refine V.run hF [(.astore_n 2, 1, .null), (.iconst 0, 1, .int 0), (.istore_n 3, 1, .null)] (pc' := 10) (L' := [some (.ref a), some (.ref b), some (.ref q), some (.int 0)]) (st' := []) (by decide +kernel) rfl ?_
  exact loop 0 (Nat.zero_le _) _ _ gs1 (fun j hj => absurd hj (Nat.not_lt_zero j)) (fun x hx => gk1 x hx)
abbrev woP (h : Hp) (m k : Nat) (g : Nat → Option Nat) : Option Value → Hp → Prop := fun v h' => ∃ q g', v = some (.ref q) ∧ h q = none ∧ h' q = some (.inl (2, m, .inr (.inr (.inr (.inr g'))))) ∧ (∀ j, j < m → g' j = g (if j < k then j else j + 1)) ∧ ∀ x, x ≠ q → h' x = h x
theorem nI_pr (m : Nat) : nI (m + 1) - 1 = nI m := by
  rw [← nI_1 m]
  exact Int32.add_sub_cancel _ _
set_option maxHeartbeats 4000000 in
theorem c_X4_without (hG : GOk G) {a m k : Nat} {g : Nat → Option Nat} (ha : h a = some (.inl (2, m + 1, .inr (.inr (.inr (.inr g)))))) (hg : ∀ j, j < m + 1 → ∃ rj y, g j = some rj ∧ h rj = some (.inl (0, y))) (hk0 : k < m + 1) (hn : m ≤ 12) :
    Ct G yX4_without (.code yX4_without cX4_without 4 (some (.array (.array .int)))) 0 0 1 12 [.ref a, .int (nI k)] h (woP h m k g) pxN := by
  refine Ct.of (by decide +kernel) (Nat.le_of_ble_eq_true rfl) fun F hF hT hN hRm => ?_
  refine V.run hF [(.aload_n 0, 1, .null)] (pc' := 1) (L' := [some (.ref a), some (.int (nI k)), none, none]) (st' := [.ref a]) (by decide +kernel) rfl ?_
  refine V.alen hG hF (by decide +kernel) (by decide) ha ?_
  show V G F _ _ _ 2 [some (.ref a), some (.int (nI k)), none, none] [.int (nI (m + 1))] h
  refine V.run hF [(.iconst 1, 1, .int 1), (.isub, 1, .null)] (pc' := 4) (L' := [some (.ref a), some (.int (nI k)), none, none]) (st' := [.int (nI (m + 1) - 1)]) (by decide +kernel) rfl ?_
  rw [nI_pr m]
  refine V.less (kc' := 0 + 1) (ks' := 0 + m) (by omega) (by omega) ?_
  refine V.newA (N := m) hG hF tw_405.1 (by decide +kernel) (by omega) (fun q hq_q => ?_)
  have ne_a_q : a ≠ q := ne_new ha hq_q
  obtain ⟨h_1, gh1⟩ : ∃ z : Hp, z = hset h q (.inl (2, m, .inr (.inr (.inr (.inr (fun _ => none)))))) := ⟨_, rfl⟩
  refine V.hp gh1 ?_
  have gk1 : ∀ zq : Nat, zq ≠ q → h_1 zq = h zq := fun zq hq => by rw [gh1]; exact hset_ne hq
  have gs1 : h_1 q = some (.inl (2, m, .inr (.inr (.inr (.inr (fun _ => none)))))) := by rw [gh1]; exact hset_eq
  have loop : ∀ i, i ≤ m → ∀ (hh : Hp) (gg : Nat → Option Nat), hh q = some (.inl (2, m, .inr (.inr (.inr (.inr gg))))) → (∀ j, j < i → gg j = g (if j < k then j else j + 1)) → (∀ x, x ≠ q → hh x = h x) → V G F (fin G F (woP h m k g) pxN) 0 0 10 [some (.ref a), some (.int (nI k)), some (.ref q), some (.int (nI i))] [] hh := by
    refine lp_up m fun i hi ih hh gg hq hgg hk => ?_
    have ea : hh a = some (.inl (2, m + 1, .inr (.inr (.inr (.inr g))))) := (hk a ne_a_q).trans ha
    refine V.run hF [(.iload_n 3, 1, .null), (.aload_n 2, 1, .null)] (pc' := 12) (L' := [some (.ref a), some (.int (nI k)), some (.ref q), some (.int (nI i))]) (st' := [.ref q, .int (nI i)]) (by decide +kernel) rfl ?_
    refine V.alen hG hF (by decide +kernel) (by decide) hq ?_
    show V G F _ _ _ 13 [some (.ref a), some (.int (nI k)), some (.ref q), some (.int (nI i))] [.int (nI m), .int (nI i)] hh
    refine V.icmpN_ge (i := i) (j := m) hF (off := 26) (tgt := 39) (by decide +kernel) (by decide) (by omega) (by omega) (fun c1 => ?_) (fun c1 => ?_)
    · skip
      refine V.run hF [(.aload_n 2, 1, .null)] (pc' := 40) (L' := [some (.ref a), some (.int (nI k)), some (.ref q), some (.int (nI i))]) (st' := [.ref q]) (by decide +kernel) rfl ?_
      have e : i = m := by omega
      exact V.retA hF (by decide +kernel) ⟨q, gg, rfl, hq_q, hq, fun j hj => hgg j (by omega), hk⟩
    · skip
      refine V.run hF [(.aload_n 2, 1, .null), (.iload_n 3, 1, .null), (.aload_n 0, 1, .null), (.iload_n 3, 1, .null), (.iload_n 1, 1, .null)] (pc' := 21) (L' := [some (.ref a), some (.int (nI k)), some (.ref q), some (.int (nI i))]) (st' := [.int (nI k), .int (nI i), .ref a, .int (nI i), .ref q]) (by decide +kernel) rfl ?_
      refine V.icmpN_ge (i := i) (j := k) hF (off := 7) (tgt := 28) (by decide +kernel) (by decide) (by omega) (by omega) (fun c2 => ?_) (fun c2 => ?_)
      · skip
        refine V.run hF [(.iload_n 3, 1, .null), (.iconst 1, 1, .int 1), (.iadd, 1, .null)] (pc' := 31) (L' := [some (.ref a), some (.int (nI k)), some (.ref q), some (.int (nI i))]) (st' := [.int (nI i + 1), .ref a, .int (nI i), .ref q]) (by decide +kernel) rfl ?_
        rw [nI_1 i]
        obtain ⟨ri, y, e1, e2⟩ := hg (i + 1) (by omega)
        refine V.aaldS (j := i + 1) (b := ri) hG hF (by decide +kernel) ea (by omega) (by first | decide | omega) e1 ?_
        refine V.aastAN (j := i) hG hF (by decide) (by decide +kernel) hq ((hk ri (ne_new e2 hq_q)).trans e2) (by omega) (by first | decide | omega) ?_
        obtain ⟨h_2, gh2⟩ : ∃ z : Hp, z = hset hh q (.inl (2, m, .inr (.inr (.inr (.inr (va_up gg i (some ri))))))) := ⟨_, rfl⟩
        refine V.hp gh2 ?_
        have gk2 : ∀ zq : Nat, zq ≠ q → h_2 zq = hh zq := fun zq hq => by rw [gh2]; exact hset_ne hq
        have gs2 : h_2 q = some (.inl (2, m, .inr (.inr (.inr (.inr (va_up gg i (some ri))))))) := by rw [gh2]; exact hset_eq
        refine V.run hF [(.iinc 3 1, 3, .int 1), (.goto (-26), 3, .null)] (pc' := 10) (L' := [some (.ref a), some (.int (nI k)), some (.ref q), some (.int ((nI i) + 1))]) (st' := []) (by decide +kernel) rfl ?_
        rw [nI_1 i]
        refine ih c1 _ _ gs2 (fun j hj => ?_) (fun x hx => (gk2 x hx).trans (hk x hx))
        by_cases hj2 : j = i
        · rw [hj2, va_up_self, if_neg (by omega)]
          exact e1.symm
        · rw [va_up_ne _ _ hj2]
          exact hgg j (by omega)
      · skip
        refine V.run hF [(.iload_n 3, 1, .null), (.goto 6, 3, .null)] (pc' := 31) (L' := [some (.ref a), some (.int (nI k)), some (.ref q), some (.int (nI i))]) (st' := [.int (nI i), .ref a, .int (nI i), .ref q]) (by decide +kernel) rfl ?_
        obtain ⟨ri, y, e1, e2⟩ := hg i (by omega)
        refine V.aaldS (j := i) (b := ri) hG hF (by decide +kernel) ea (by omega) (by first | decide | omega) e1 ?_
        refine V.aastAN (j := i) hG hF (by decide) (by decide +kernel) hq ((hk ri (ne_new e2 hq_q)).trans e2) (by omega) (by first | decide | omega) ?_
        obtain ⟨h_3, gh3⟩ : ∃ z : Hp, z = hset hh q (.inl (2, m, .inr (.inr (.inr (.inr (va_up gg i (some ri))))))) := ⟨_, rfl⟩
        refine V.hp gh3 ?_
        have gk3 : ∀ zq : Nat, zq ≠ q → h_3 zq = hh zq := fun zq hq => by rw [gh3]; exact hset_ne hq
        have gs3 : h_3 q = some (.inl (2, m, .inr (.inr (.inr (.inr (va_up gg i (some ri))))))) := by rw [gh3]; exact hset_eq
        refine V.run hF [(.iinc 3 1, 3, .int 1), (.goto (-26), 3, .null)] (pc' := 10) (L' := [some (.ref a), some (.int (nI k)), some (.ref q), some (.int ((nI i) + 1))]) (st' := []) (by decide +kernel) rfl ?_
        rw [nI_1 i]
        refine ih c1 _ _ gs3 (fun j hj => ?_) (fun x hx => (gk3 x hx).trans (hk x hx))
        by_cases hj2 : j = i
        · rw [hj2, va_up_self, if_pos (by omega)]
          exact e1.symm
        · rw [va_up_ne _ _ hj2]
          exact hgg j (by omega)
  refine V.run hF [(.astore_n 2, 1, .null), (.iconst 0, 1, .int 0), (.istore_n 3, 1, .null)] (pc' := 10) (L' := [some (.ref a), some (.int (nI k)), some (.ref q), some (.int 0)]) (st' := []) (by decide +kernel) rfl ?_
  exact loop 0 (Nat.zero_le _) _ _ gs1 (fun j hj => absurd hj (Nat.not_lt_zero j)) (fun x hx => gk1 x hx)
theorem has_s {ff D C M : Nat → Int32} {i d c : Nat} (hd : d < 8) (hc : c < 8) (ed : D i = nI d) (ec : C i = nI c) (hdc : D i ≠ C i) (hf : ∀ p, p < 8 → ff p = bal D C M (nI p) i) : ∀ p, p < 8 → upd (upd ff d (ff d - M i)) c (upd ff d (ff d - M i) c + M i) p = bal D C M (nI p) (i + 1) := by
  intro p hp
  have hne : c ≠ d := fun q => hdc (by rw [ed, ec, q])
  show (if p = c then (if c = d then _ else ff c) + M i else if p = d then ff d - M i else ff p) = if C i = nI p then _ else if D i = nI p then _ else _
  rw [ed, ec, if_neg hne]
  by_cases h1 : p = c
  · rw [if_pos h1, if_pos (by rw [h1]), hf c hc, h1]
  · have h1' : ¬ nI c = nI p := fun q => h1 ((nI_eq (by omega) (by omega)).mp q).symm
    rw [if_neg h1, if_neg h1']
    by_cases h2 : p = d
    · rw [if_pos h2, if_pos (by rw [h2]), hf d hd, h2]
    · have h2' : ¬ nI d = nI p := fun q => h2 ((nI_eq (by omega) (by omega)).mp q).symm
      rw [if_neg h2, if_neg h2', hf p hp]
abbrev hasP (h : Hp) (D C M : Nat → Int32) (n : Nat) : Option Value → Hp → Prop := fun v h' => ∃ q f, v = some (.ref q) ∧ h q = none ∧ h' q = some (.inl (0, 8, .inl f)) ∧ (∀ p, p < 8 → f p = bal D C M (nI p) n) ∧ ∀ x, x ≠ q → h' x = h x
set_option maxHeartbeats 4000000 in
theorem c_X4_has (hG : GOk G) {a n : Nat} {R : Nat → Nat} {D C M W : Nat → Int32} (hR : Rows h a n R D C M W) (hn : n ≤ 12) (hp : ∀ j, j < n → inP (D j) ∧ inP (C j) ∧ D j ≠ C j) :
    Ct G yX4_has (.code yX4_has cX4_has 6 (some (.array .int))) 0 0 1 8 [.ref a] h (hasP h D C M n) pxN := by
  refine Ct.of (by decide +kernel) (Nat.le_of_ble_eq_true rfl) fun F hF hT hN hRm => ?_
  obtain ⟨⟨g, ha, hg⟩, hr⟩ := id hR
  refine V.run hF [(.bipush 8, 2, .int (nI 8))] (pc' := 2) (L' := [some (.ref a), none, none, none, none, none]) (st' := [.int (nI 8)]) (by decide +kernel) rfl ?_
  refine V.less (kc' := 0 + 1) (ks' := 0 + 8) (by omega) (by omega) ?_
  refine V.newa (aty := .int) (t := 0) (N := 8) (a0 := (8, .inl (fun _ => 0))) hG hF (by decide) rfl tw_arr_0.1 (by decide +kernel) (by decide) (by decide) (by decide) (fun _ => rfl) (fun q hq_q => ?_)
  have ne_a_q : a ≠ q := ne_new ha hq_q
  obtain ⟨h_1, gh1⟩ : ∃ z : Hp, z = hset h q (.inl (0, 8, .inl (fun _ => 0))) := ⟨_, rfl⟩
  refine V.hp gh1 ?_
  have gk1 : ∀ zq : Nat, zq ≠ q → h_1 zq = h zq := fun zq hq => by rw [gh1]; exact hset_ne hq
  have gs1 : h_1 q = some (.inl (0, 8, .inl (fun _ => 0))) := by rw [gh1]; exact hset_eq
  have loop : ∀ i, i ≤ n → ∀ (hh : Hp) (ff : Nat → Int32), hh q = some (.inl (0, 8, .inl ff)) → (∀ p, p < 8 → ff p = bal D C M (nI p) i) → (∀ x, x ≠ q → hh x = h x) → ∀ (L5 : Option Value), V G F (fin G F (hasP h D C M n) pxN) 0 0 13 [some (.ref a), some (.ref q), some (.ref a), some (.int (nI n)), some (.int (nI i)), L5] [] hh := by
    refine lp_up n fun i hi ih hh ff hq hff hk L5 => ?_
    have ea : hh a = some (.inl (2, n, .inr (.inr (.inr (.inr g))))) := (hk a ne_a_q).trans ha
    refine V.loc (L' := [some (.ref a), some (.ref q), some (.ref a), some (.int (nI n)), some (.int (nI i)), none]) (fun j v hv => by
      match j, hv with
      | 0, hv => exact hv
      | 1, hv => exact hv
      | 2, hv => exact hv
      | 3, hv => exact hv
      | 4, hv => exact hv
      | 5, hv => cases hv
      | q + 6, hv => cases hv) ?_
    refine V.run hF [(.iload 4, 2, .null), (.iload_n 3, 1, .null)] (pc' := 16) (L' := [some (.ref a), some (.ref q), some (.ref a), some (.int (nI n)), some (.int (nI i)), none]) (st' := [.int (nI n), .int (nI i)]) (by decide +kernel) rfl ?_
    refine V.icmpN_ge (i := i) (j := n) hF (off := 41) (tgt := 57) (by decide +kernel) (by decide) (by omega) (by omega) (fun c1 => ?_) (fun c1 => ?_)
    · skip
      refine V.run hF [(.aload_n 1, 1, .null)] (pc' := 58) (L' := [some (.ref a), some (.ref q), some (.ref a), some (.int (nI n)), some (.int (nI i)), none]) (st' := [.ref q]) (by decide +kernel) rfl ?_
      have e : i = n := by omega
      exact V.retA hF (by decide +kernel) ⟨q, ff, rfl, hq_q, hq, fun p hp => by rw [← e]; exact hff p hp, hk⟩
    · skip
      refine V.run hF [(.aload_n 2, 1, .null), (.iload 4, 2, .null)] (pc' := 22) (L' := [some (.ref a), some (.ref q), some (.ref a), some (.int (nI n)), some (.int (nI i)), none]) (st' := [.int (nI i), .ref a]) (by decide +kernel) rfl ?_
      obtain ⟨fr, er, e0, e1, e2, e3⟩ := hr i c1
      obtain ⟨d, hd, ed⟩ := inP_of (hp i c1).1
      obtain ⟨c, hc, ec⟩ := inP_of (hp i c1).2.1
      have nq : R i ≠ q := ne_new er hq_q
      have er' : hh (R i) = some (.inl (0, 4, .inl fr)) := (hk _ nq).trans er
      refine V.aaldS (j := i) (b := (R i)) hG hF (by decide +kernel) ea (by omega) (by first | decide | omega) (hg i c1) ?_
      refine V.run hF [(.astore 5, 2, .null), (.aload_n 1, 1, .null), (.aload 5, 2, .null), (.iconst 0, 1, .int (nI 0))] (pc' := 29) (L' := [some (.ref a), some (.ref q), some (.ref a), some (.int (nI n)), some (.int (nI i)), some (.ref (R i))]) (st' := [.int (nI 0), .ref (R i), .ref q]) (by decide +kernel) rfl ?_
      refine V.ialdN (j := 0) hG hF (by decide +kernel) er' (by omega) (by first | decide | omega) ?_
      rw [e0, ed]
      refine V.run hF [(.dup2, 1, .null)] (pc' := 31) (L' := [some (.ref a), some (.ref q), some (.ref a), some (.int (nI n)), some (.int (nI i)), some (.ref (R i))]) (st' := [.int (nI d), .ref q, .int (nI d), .ref q]) (by decide +kernel) rfl ?_
      refine V.ialdN (j := d) hG hF (by decide +kernel) hq (by omega) (by first | decide | omega) ?_
      refine V.run hF [(.aload 5, 2, .null), (.iconst 2, 1, .int (nI 2))] (pc' := 35) (L' := [some (.ref a), some (.ref q), some (.ref a), some (.int (nI n)), some (.int (nI i)), some (.ref (R i))]) (st' := [.int (nI 2), .ref (R i), .int (ff d), .int (nI d), .ref q]) (by decide +kernel) rfl ?_
      refine V.ialdN (j := 2) hG hF (by decide +kernel) er' (by omega) (by first | decide | omega) ?_
      refine V.run hF [(.isub, 1, .null)] (pc' := 37) (L' := [some (.ref a), some (.ref q), some (.ref a), some (.int (nI n)), some (.int (nI i)), some (.ref (R i))]) (st' := [.int (ff d - fr 2), .int (nI d), .ref q]) (by decide +kernel) rfl ?_
      refine V.iastN (j := d) hG hF (by decide +kernel) hq (by omega) (by first | decide | omega) ?_
      obtain ⟨h_2, gh2⟩ : ∃ z : Hp, z = hset hh q (.inl (0, 8, .inl (upd ff d (ff d - fr 2)))) := ⟨_, rfl⟩
      refine V.hp gh2 ?_
      have gk2 : ∀ zq : Nat, zq ≠ q → h_2 zq = hh zq := fun zq hq => by rw [gh2]; exact hset_ne hq
      have gs2 : h_2 q = some (.inl (0, 8, .inl (upd ff d (ff d - fr 2)))) := by rw [gh2]; exact hset_eq
      refine V.run hF [(.aload_n 1, 1, .null), (.aload 5, 2, .null), (.iconst 1, 1, .int (nI 1))] (pc' := 42) (L' := [some (.ref a), some (.ref q), some (.ref a), some (.int (nI n)), some (.int (nI i)), some (.ref (R i))]) (st' := [.int (nI 1), .ref (R i), .ref q]) (by decide +kernel) rfl ?_
      have gf3 : h_2 (R i) = some (.inl (0, 4, .inl fr)) := (gk2 (R i) (by first | assumption | exact Ne.symm (by assumption) | omega)).trans er'
      refine V.ialdN (j := 1) hG hF (by decide +kernel) gf3 (by omega) (by first | decide | omega) ?_
      rw [e1, ec]
      refine V.run hF [(.dup2, 1, .null)] (pc' := 44) (L' := [some (.ref a), some (.ref q), some (.ref a), some (.int (nI n)), some (.int (nI i)), some (.ref (R i))]) (st' := [.int (nI c), .ref q, .int (nI c), .ref q]) (by decide +kernel) rfl ?_
      refine V.ialdN (j := c) hG hF (by decide +kernel) gs2 (by omega) (by first | decide | omega) ?_
      refine V.run hF [(.aload 5, 2, .null), (.iconst 2, 1, .int (nI 2))] (pc' := 48) (L' := [some (.ref a), some (.ref q), some (.ref a), some (.int (nI n)), some (.int (nI i)), some (.ref (R i))]) (st' := [.int (nI 2), .ref (R i), .int ((upd ff d (ff d - fr 2)) c), .int (nI c), .ref q]) (by decide +kernel) rfl ?_
      refine V.ialdN (j := 2) hG hF (by decide +kernel) gf3 (by omega) (by first | decide | omega) ?_
      refine V.run hF [(.iadd, 1, .null)] (pc' := 50) (L' := [some (.ref a), some (.ref q), some (.ref a), some (.int (nI n)), some (.int (nI i)), some (.ref (R i))]) (st' := [.int ((upd ff d (ff d - fr 2)) c + fr 2), .int (nI c), .ref q]) (by decide +kernel) rfl ?_
      refine V.iastN (j := c) hG hF (by decide +kernel) gs2 (by omega) (by first | decide | omega) ?_
      obtain ⟨h_4, gh4⟩ : ∃ z : Hp, z = hset h_2 q (.inl (0, 8, .inl (upd (upd ff d (ff d - fr 2)) c ((upd ff d (ff d - fr 2)) c + fr 2)))) := ⟨_, rfl⟩
      refine V.hp gh4 ?_
      have gk4 : ∀ zq : Nat, zq ≠ q → h_4 zq = h_2 zq := fun zq hq => by rw [gh4]; exact hset_ne hq
      have gs4 : h_4 q = some (.inl (0, 8, .inl (upd (upd ff d (ff d - fr 2)) c ((upd ff d (ff d - fr 2)) c + fr 2)))) := by rw [gh4]; exact hset_eq
      refine V.run hF [(.iinc 4 1, 3, .int 1), (.goto (-41), 3, .null)] (pc' := 13) (L' := [some (.ref a), some (.ref q), some (.ref a), some (.int (nI n)), some (.int ((nI i) + 1)), some (.ref (R i))]) (st' := []) (by decide +kernel) rfl ?_
      rw [nI_1 i]
      refine ih c1 _ _ gs4 ?_ (fun x hx => (gk4 x hx).trans ((gk2 x hx).trans (hk x hx))) _
      rw [e2]
      exact has_s hd hc ed ec (hp i c1).2.2 hff
  refine V.run hF [(.astore_n 1, 1, .null), (.aload_n 0, 1, .null), (.astore_n 2, 1, .null), (.aload_n 2, 1, .null)] (pc' := 8) (L' := [some (.ref a), some (.ref q), some (.ref a), none, none, none]) (st' := [.ref a]) (by decide +kernel) rfl ?_
  have gf5 : h_1 a = some (.inl (2, n, .inr (.inr (.inr (.inr g))))) := (gk1 a (by first | assumption | exact Ne.symm (by assumption) | omega)).trans ha
  refine V.alen hG hF (by decide +kernel) (by decide) gf5 ?_
  show V G F _ _ _ 9 [some (.ref a), some (.ref q), some (.ref a), none, none, none] [.int (nI n)] h_1
  refine V.run hF [(.istore_n 3, 1, .null), (.iconst 0, 1, .int 0), (.istore 4, 2, .null)] (pc' := 13) (L' := [some (.ref a), some (.ref q), some (.ref a), some (.int (nI n)), some (.int 0), none]) (st' := []) (by decide +kernel) rfl ?_
  exact loop 0 (Nat.zero_le _) _ _ gs1 (fun p hp => rfl) (fun x hx => gk1 x hx) _
end Si
