/-! ===== TallyWax: private helpers ===== -/
abbrev eI : String := "java/lang/IndexOutOfBoundsException"
abbrev eA : String := "java/lang/IllegalArgumentException"
abbrev eS : String := "java/lang/IllegalStateException"
def okT (σ : Sg) (x : Int32) : Prop := ∃ t, t < gT σ ∧ x = nI t
def okL (σ : Sg) (x y : Int32) : Prop := ∃ t l, t < gT σ ∧ l < gn σ t ∧ x = nI t ∧ y = nI l
theorem okT_no {σ : Sg} {x : Int32} (h8 : gT σ ≤ 8) (h : x < 0 ∨ nI (gT σ) ≤ x) : ¬ okT σ x := by
  rintro ⟨t, ht, rfl⟩
  rcases h with h | h
  · exact nI_pos (by omega) h
  · exact absurd ((nI_leI (by omega) (by omega)).mp h) (by omega)
/-- a JDK method of a class of which some methods are native or replaced, this one not -/
theorem Ct.ofJ {G : Gt} {y : MethodName} {cc : ByteArray} {nL rf rl mc ms : Nat} {re : Option FieldType} {As : List Value} {h : Hp} {po : Option Value → Hp → Prop} {px : String → Hp → Prop} (hy : plainFor y = true) (hlen : (lg_sl As).length ≤ nL)
    (body : ∀ F : Ft, Ok G F y.cls cc nL re → NoTab F → (fMe F).name = y.name → fR F = { frames := rf, cells := mc, slots := ms, locals := rl } → V G F (fin G F po px) mc ms 0 (entL nL As) [] h) : Ct G y (.code y cc nL re) rf rl mc ms As h po px := by
  refine MetFree.of_bodySF (code := cc) (maxLocals := nL) (ret := re) hy ?_ ?_
  · intro args s m h hn
    obtain ⟨meth, c, h1, h2, h3, h4, h5, h6, -, -⟩ := Cond.code_spec hn (atoms_spec (ws := [Cond.code y cc nL re]) h _ List.mem_cons_self)
    exact ⟨meth, c, h1, h2, h3, h4, h5, h6⟩
  · intro p e s m args below meth c s₁ B hml hP _
    have hh0 : s₁.heap = s.heap := by rw [B.state]; rfl
    have ht : ∀ x ∈ c.exceptionTable.toList, False := by
      obtain ⟨meth9, c9, h1, h2, -, -, -, -, h7, -⟩ := Cond.code_spec B.named (atoms_spec (ws := [Cond.code y cc nL re]) B.pre _ List.mem_cons_self)
      cases Option.some.inj (h1.symm.trans B.method)
      cases Option.some.inj (h2.symm.trans (Stand.of_body B).code)
      intro x hx
      rw [Array.isEmpty_iff.mp h7] at hx
      cases hx
    obtain ⟨rfl, hst, hR⟩ := hP
    have k := body (p, e, { frames := rf, cells := mc, slots := ms, locals := rl }, s, m, As.toArray, below, meth, c) ⟨B.exec, B.bytes, hml, B.returns, findClass_of_methodNamed B.named, B.notSynchronized, hst⟩ ht (name_of_methodNamed B.named B.method).1 rfl
    have kk := k s.heap [] _ 0 0 hR va_S.rf (entL_LR hlen) ((entL_sz hlen).trans hml.symm) (Nat.le_of_eq (Nat.zero_add _)) (Nat.le_of_eq (Nat.zero_add _))
    have kk2 : W p G.1 e { frames := rf, cells := mc, slots := ms, locals := rl } s m As.toArray below meth c s.heap [] 0 0 (vx_MQ below (cQ G po) (cX G px) As.toArray s mc ms (gF G)) (entryFrame m As.toArray nL) := by
      rw [lg_entry_eq]
      exact kk
    obtain ⟨t, a1, o, b1, b2, b3⟩ := kk2 s₁ hh0 (Stand.of_body B)
    exact ⟨t, o, a1, b1, b2, b3⟩
section Hl
variable {G : Gt} {h : Hp} {A : Nat → Nat} {σ : Sg} {P : PS} {r : Nat → Int32}
set_option maxHeartbeats 4000000 in
theorem c_X3_linesWith (hG : GOk G) (hC : CS h A σ P r) (x y : Int32) : Ct G yX3_linesWith (.code yX3_linesWith cX3_linesWith 4 (some (.object "TallyWax$LineList"))) 7 104 2 12 [.ref (A 0), .int x, .int y] h
    (fun v h' => (∃ t l, t < gT σ ∧ l < gn σ t ∧ x = nI t ∧ y = nI l ∧ v = some (.ref (A (13 + 6 * t)))) ∧ h' = h) (fun E h' => E = eI ∧ ¬ okL σ x y ∧ h' = h) := by
  refine Ct.of (by decide +kernel) (Nat.le_of_ble_eq_true rfl) fun F hF hT hN hRm => ?_
  obtain ⟨hI, hT8, hA, h1, h2, h3, h4, h5, h6⟩ := id hC
  refine V.run hF [(.aload_n 0, 1, .null), (.iload_n 1, 1, .null)] (pc' := 2) (L' := [some (.ref (A 0)), some (.int x), some (.int y), none]) (st' := [.int x, .ref (A 0)]) (by decide +kernel) rfl ?_
  refine V.callV (As := [.int x]) (st := []) hG hF k_RX3_52 (by decide +kernel) (c_X3_tabletAt hG hC x) hA rfl rfl ⟨by rw [hRm]; decide, by rw [hRm]; decide⟩ (Nat.le_of_ble_eq_true rfl) rfl (fun v h1' hp => ?_) (fun E h9 hx => VX.out hF hT ⟨hx.1, fun q => okT_no hT8 hx.2.1 (by obtain ⟨t, l, e1, -, e2, -⟩ := q; exact ⟨t, e1, e2⟩), hx.2.2⟩)
  obtain ⟨⟨t, ht, rfl, rfl⟩, he⟩ := hp
  rw [he]
  obtain ⟨t1, t2, t3⟩ := h6 t ht
  show V G F _ _ _ 5 [some (.ref (A 0)), some (.int (nI t)), some (.int y), none] [.ref (A (12 + 6 * t))] h
  refine V.getf hG hF k_RX3_56 (by decide +kernel) t1 rfl ?_
  refine V.run hF [(.astore_n 3, 1, .null), (.iload_n 2, 1, .null)] (pc' := 10) (L' := [some (.ref (A 0)), some (.int (nI t)), some (.int y), some (.ref (A (13 + 6 * t)))]) (st' := [.int y]) (by decide +kernel) rfl ?_
  have hno : (y < 0 ∨ nI (gn σ t) ≤ y) → ¬ okL σ (nI t) y := by
    rintro h ⟨t', l, e1, e2, e3, rfl⟩
    obtain rfl : t = t' := (nI_eq (by omega) (by omega)).mp e3
    rcases h with h | h
    · exact nI_pos (by omega) h
    · exact absurd ((nI_leI (by omega) (by omega)).mp h) (by omega)
  refine V.if_lt hF (off := 11) (tgt := 21) (by decide +kernel) (by decide) (fun c1 => ?_) (fun c1 => ?_)
  · skip
    exact V.throwS hG hF hT kt_RX3_224 (by decide +kernel) (by decide +kernel) (by decide +kernel) (by decide +kernel) (by decide +kernel) ⟨by rw [hRm]; decide, by rw [hRm]; decide⟩ ⟨rfl, hno (Or.inl c1), rfl⟩
  · skip
    refine V.run hF [(.iload_n 2, 1, .null), (.aload_n 3, 1, .null)] (pc' := 15) (L' := [some (.ref (A 0)), some (.int (nI t)), some (.int y), some (.ref (A (13 + 6 * t)))]) (st' := [.ref (A (13 + 6 * t)), .int y]) (by decide +kernel) rfl ?_
    refine V.getf hG hF k_RX3_67 (by decide +kernel) t2.1 rfl ?_
    refine V.icmp_lt hF (off := 13) (tgt := 31) (by decide +kernel) (by decide) (fun c2 => ?_) (fun c2 => ?_)
    · skip
      refine V.run hF [(.aload_n 3, 1, .null)] (pc' := 32) (L' := [some (.ref (A 0)), some (.int (nI t)), some (.int y), some (.ref (A (13 + 6 * t)))]) (st' := [.ref (A (13 + 6 * t))]) (by decide +kernel) rfl ?_
      obtain ⟨l, hl, rfl⟩ : ∃ l, l < gn σ t ∧ y = nI l := by
        rcases pk_ix y (n := gn σ t) (by omega) with q | q | ⟨j, hj, e⟩
        · exact absurd q c1
        · exact absurd c2 (Int32.not_lt.mpr q)
        · exact ⟨j, hj, e⟩
      exact V.reta hF (by decide +kernel) ⟨⟨t, l, ht, hl, rfl, rfl, rfl⟩, rfl⟩
    · skip
      exact V.throwS hG hF hT kt_RX3_224 (by decide +kernel) (by decide +kernel) (by decide +kernel) (by decide +kernel) (by decide +kernel) ⟨by rw [hRm]; decide, by rw [hRm]; decide⟩ ⟨rfl, hno (Or.inr (Int32.not_lt.mp c2)), rfl⟩
set_option maxHeartbeats 4000000 in
theorem c_X3_holds (x y : Int32) : Ct G yX3_holds (.code yX3_holds cX3_holds 2 (some .boolean)) 0 0 0 0 [.int x, .int y] h (is_i (tf (¬ (x >>> (y &&& 31)) &&& 1 = 0)) h) pxN := by
  refine Ct.of (by decide +kernel) (Nat.le_of_ble_eq_true rfl) fun F hF hT hN hRm => ?_
  refine V.run hF [(.iload_n 0, 1, .null), (.iload_n 1, 1, .null), (.ishr, 1, .null), (.iconst 1, 1, .int 1), (.iand, 1, .null)] (pc' := 5) (L' := [some (.int x), some (.int y)]) (st' := [.int ((x >>> (y &&& 31)) &&& 1)]) (by decide +kernel) rfl ?_
  refine V.if_eq hF (off := 7) (tgt := 12) (by decide +kernel) (by decide) (fun c1 => ?_) (fun c1 => ?_)
  · skip
    refine V.run hF [(.iconst 0, 1, .int 0)] (pc' := 13) (L' := [some (.int x), some (.int y)]) (st' := [.int 0]) (by decide +kernel) rfl ?_
    exact V.retz hF (by decide +kernel) rfl ⟨by rw [tf, if_neg (fun q => q c1)], rfl⟩
  · skip
    refine V.run hF [(.iconst 1, 1, .int 1), (.goto 4, 3, .null)] (pc' := 13) (L' := [some (.int x), some (.int y)]) (st' := [.int 1]) (by decide +kernel) rfl ?_
    exact V.retz hF (by decide +kernel) rfl ⟨by rw [tf, if_pos c1], rfl⟩
theorem xor_nn {x y : Int32} (hx : 0 ≤ x.toInt) (hy : 0 ≤ y.toInt) : 0 ≤ (x ^^^ y).toInt := by
  have hx' : x.toBitVec.msb = false := by
    rw [BitVec.msb_eq_toInt]
    exact decide_eq_false (Int.not_lt.mpr hx)
  have hy' : y.toBitVec.msb = false := by
    rw [BitVec.msb_eq_toInt]
    exact decide_eq_false (Int.not_lt.mpr hy)
  have h : (x.toBitVec ^^^ y.toBitVec).msb = false := by
    rw [BitVec.msb_xor, hx', hy']
    rfl
  rw [BitVec.msb_eq_toInt] at h
  exact Int.not_lt.mp (of_decide_eq_false h)
set_option maxHeartbeats 4000000 in
theorem c_J_floorMod {a d : Nat} (ha : a < 2 ^ 31) (h0 : 0 < d) (hd : d < 2 ^ 31) : Ct G yJ9_floorMod_7cf53 (.code yJ9_floorMod_7cf53 cJ9_floorMod_7cf53 3 (some .int)) 0 0 0 0 [.int (nI a), .int (nI d)] h (is_i (nI (a % d)) h) pxN := by
  refine Ct.ofJ (by decide +kernel) (Nat.le_of_ble_eq_true rfl) fun F hF hT hN hRm => ?_
  refine V.run hF [(.iload_n 0, 1, .null), (.iload_n 1, 1, .null)] (pc' := 2) (L' := [some (.int (nI a)), some (.int (nI d)), none]) (st' := [.int (nI d), .int (nI a)]) (by decide +kernel) rfl ?_
  refine V.irem hF (by decide +kernel) (fun q => by have := nI_ne0 h0 hd; exact this q) ?_
  rw [pk_rem ha h0 hd]
  refine V.run hF [(.istore_n 2, 1, .null), (.iload_n 0, 1, .null), (.iload_n 1, 1, .null), (.ixor, 1, .null)] (pc' := 7) (L' := [some (.int (nI a)), some (.int (nI d)), some (.int (nI (a % d)))]) (st' := [.int (nI a ^^^ nI d)]) (by decide +kernel) rfl ?_
  refine V.if_ge hF (off := 11) (tgt := 18) (by decide +kernel) (by decide) (fun c1 => ?_) (fun c1 => ?_)
  · skip
    refine V.run hF [(.iload_n 2, 1, .null)] (pc' := 19) (L' := [some (.int (nI a)), some (.int (nI d)), some (.int (nI (a % d)))]) (st' := [.int (nI (a % d))]) (by decide +kernel) rfl ?_
    exact V.reti hF (by decide +kernel) ⟨rfl, rfl⟩
  · skip
    exact absurd (by rw [Int32.le_iff_toInt_le, Int32.toInt_zero]; exact xor_nn (by rw [nI_toInt ha]; omega) (by rw [nI_toInt hd]; omega)) c1
abbrev heatAt (σ : Sg) (k : Nat) : Int32 := ghe σ ((gy σ + k) % 10)
set_option maxHeartbeats 4000000 in
theorem c_X3_heatAfter (hG : GOk G) (hC : CS h A σ P r) {k : Nat} (hk : gy σ + k < 2 ^ 31) : Ct G yX3_heatAfter (.code yX3_heatAfter cX3_heatAfter 2 (some .int)) 1 22 0 0 [.ref (A 0), .int (nI k)] h (is_i (heatAt σ k) h) pxN := by
  refine Ct.of (by decide +kernel) (Nat.le_of_ble_eq_true rfl) fun F hF hT hN hRm => ?_
  obtain ⟨hI, hT8, hA, h1, h2, h3, h4, h5, h6⟩ := id hC
  refine V.run hF [(.aload_n 0, 1, .null)] (pc' := 1) (L' := [some (.ref (A 0)), some (.int (nI k))]) (st' := [.ref (A 0)]) (by decide +kernel) rfl ?_
  refine V.getf hG hF k_RX3_19 (by decide +kernel) hA rfl ?_
  refine V.run hF [(.aload_n 0, 1, .null)] (pc' := 5) (L' := [some (.ref (A 0)), some (.int (nI k))]) (st' := [.ref (A 0), .ref (A 3)]) (by decide +kernel) rfl ?_
  refine V.getf hG hF k_RX3_143 (by decide +kernel) hA rfl ?_
  refine V.run hF [(.iload_n 1, 1, .null), (.iadd, 1, .null)] (pc' := 10) (L' := [some (.ref (A 0)), some (.int (nI k))]) (st' := [.int (nI (gy σ) + nI k), .ref (A 3)]) (by decide +kernel) rfl ?_
  rw [nI_add]
  refine V.run hF [(.bipush 10, 2, .int (nI 10))] (pc' := 12) (L' := [some (.ref (A 0)), some (.int (nI k))]) (st' := [.int (nI 10), .int (nI (gy σ + k)), .ref (A 3)]) (by decide +kernel) rfl ?_
  refine V.callS (As := [.int (nI (gy σ + k)), .int (nI 10)]) (st := [.ref (A 3)]) hG hF k_RX3_239 (by decide +kernel) (c_J_floorMod hk (by decide) (by decide)) rfl ⟨by rw [hRm]; decide, by rw [hRm]; decide⟩ (Nat.le_of_ble_eq_true rfl) rfl (fun v h_1 gp1 => ?_) (fun E h9 hx => hx.elim)
  obtain ⟨rfl, he_gp1⟩ := gp1
  rw [he_gp1]
  show V G F _ _ _ 15 [some (.ref (A 0)), some (.int (nI k))] [.int (nI ((gy σ + k) % 10)), .ref (A 3)] h
  refine V.ialdN (j := (gy σ + k) % 10) hG hF (by decide +kernel) h3 (Nat.mod_lt _ (by decide)) (by decide) ?_
  exact V.reti hF (by decide +kernel) ⟨rfl, rfl⟩
/-- in how many years tablet t melts, from the k-th on -/
def ytm (σ : Sg) (t : Nat) : Nat → Nat → Int32
  | 0, _ => -1
  | f + 1, k => if gce σ t = 0 ∧ gha σ t < heatAt σ k then nI (k + 1) else ytm σ t f (k + 1)
set_option maxHeartbeats 4000000 in
theorem c_X3_yearsLeftOf (hG : GOk G) (hC : CS h A σ P r) (hy : gy σ < 2 ^ 30) {t : Nat} (ht : t < gT σ) : Ct G yX3_yearsLeftOf (.code yX3_yearsLeftOf cX3_yearsLeftOf 3 (some .int)) 2 43 0 0 [.ref (A 0), .ref (A (12 + 6 * t))] h (is_i (ytm σ t 10 0) h) pxN := by
  refine Ct.of (by decide +kernel) (Nat.le_of_ble_eq_true rfl) fun F hF hT hN hRm => ?_
  obtain ⟨hI, hT8, hA, h1, h2, h3, h4, h5, h6⟩ := id hC
  obtain ⟨t1, t2, t3⟩ := h6 t ht
  have loop : ∀ k, k ≤ 10 → V G F (fin G F (is_i (ytm σ t (10 - k) k) h) pxN) 0 0 2 [some (.ref (A 0)), some (.ref (A (12 + 6 * t))), some (.int (nI k))] [] h := by
    refine lp_up 10 fun k hk ih => ?_
    refine V.run hF [(.iload_n 2, 1, .null), (.bipush 10, 2, .int (nI 10))] (pc' := 5) (L' := [some (.ref (A 0)), some (.ref (A (12 + 6 * t))), some (.int (nI k))]) (st' := [.int (nI 10), .int (nI k)]) (by decide +kernel) rfl ?_
    refine V.icmpN_ge (i := k) (j := 10) hF (off := 25) (tgt := 30) (by decide +kernel) (by decide) (by omega) (by omega) (fun c1 => ?_) (fun c1 => ?_)
    · have ek : 10 - k = 0 := by omega
      refine V.run hF [(.iconst (-1), 1, .int (-1))] (pc' := 31) (L' := [some (.ref (A 0)), some (.ref (A (12 + 6 * t))), some (.int (nI k))]) (st' := [.int (-1)]) (by decide +kernel) rfl ?_
      exact V.reti hF (by decide +kernel) ⟨by rw [ek]; rfl, rfl⟩
    · skip
      have e8 : 10 - k = (10 - (k + 1)) + 1 := by omega
      refine V.run hF [(.aload_n 1, 1, .null), (.aload_n 0, 1, .null), (.iload_n 2, 1, .null)] (pc' := 11) (L' := [some (.ref (A 0)), some (.ref (A (12 + 6 * t))), some (.int (nI k))]) (st' := [.int (nI k), .ref (A 0), .ref (A (12 + 6 * t))]) (by decide +kernel) rfl ?_
      refine V.callV (As := [.int (nI k)]) (st := [.ref (A (12 + 6 * t))]) hG hF k_RX3_233 (by decide +kernel) (c_X3_heatAfter hG hC (k := k) (by omega)) hA rfl rfl ⟨by rw [hRm]; decide, by rw [hRm]; decide⟩ (Nat.le_of_ble_eq_true rfl) rfl (fun v h_1 gp1 => ?_) (fun E h9 hx => hx.elim)
      obtain ⟨rfl, he_gp1⟩ := gp1
      rw [he_gp1]
      show V G F _ _ _ 14 [some (.ref (A 0)), some (.ref (A (12 + 6 * t))), some (.int (nI k))] [.int (heatAt σ k), .ref (A (12 + 6 * t))] h
      refine V.callVN (As := [.int (heatAt σ k)]) (st := []) hG hF k_RX3_236 (by decide +kernel) (c_X2_meltsAt hG t1) t1 rfl rfl ⟨by rw [hRm]; decide, by rw [hRm]; decide⟩ (Nat.le_of_ble_eq_true rfl) rfl (fun v h_2 gp2 => ?_)
      obtain ⟨rfl, he_gp2⟩ := gp2
      rw [he_gp2]
      show V G F _ _ _ 17 [some (.ref (A 0)), some (.ref (A (12 + 6 * t))), some (.int (nI k))] [.int (tf (gce σ t = 0 ∧ gha σ t < heatAt σ k))] h
      refine V.if_eq hF (off := 7) (tgt := 24) (by decide +kernel) (by decide) (fun c2 => ?_) (fun c2 => ?_)
      · have q : ¬ (gce σ t = 0 ∧ gha σ t < heatAt σ k) := fun q => by
          rw [tf, if_pos q] at c2; cases c2
        refine V.run hF [(.iinc 2 1, 3, .int 1), (.goto (-25), 3, .null)] (pc' := 2) (L' := [some (.ref (A 0)), some (.ref (A (12 + 6 * t))), some (.int ((nI k) + 1))]) (st' := []) (by decide +kernel) rfl ?_
        rw [nI_1 k]
        rw [e8, ytm, if_neg q]
        exact ih c1
      · skip
        have q : gce σ t = 0 ∧ gha σ t < heatAt σ k := by
          by_cases q : gce σ t = 0 ∧ gha σ t < heatAt σ k
          · exact q
          · rw [tf, if_neg q] at c2; exact absurd rfl c2
        refine V.run hF [(.iload_n 2, 1, .null), (.iconst 1, 1, .int 1), (.iadd, 1, .null)] (pc' := 23) (L' := [some (.ref (A 0)), some (.ref (A (12 + 6 * t))), some (.int (nI k))]) (st' := [.int (nI k + 1)]) (by decide +kernel) rfl ?_
        exact V.reti hF (by decide +kernel) ⟨by rw [e8, ytm, if_pos q, nI_1], rfl⟩
  refine V.run hF [(.iconst 0, 1, .int 0), (.istore_n 2, 1, .null)] (pc' := 2) (L' := [some (.ref (A 0)), some (.ref (A (12 + 6 * t))), some (.int 0)]) (st' := []) (by decide +kernel) rfl ?_
  exact loop 0 (Nat.zero_le _)
/-- over all tablets -/
def balT (σ : Sg) (p : Int32) : Nat → Int32
  | 0 => 0
  | t + 1 => balT σ p t + bal (gDD σ t) (gC σ t) (gM σ t) p (gn σ t)
def cbT (σ : Sg) (p : Int32) : Nat → Int32
  | 0 => 0
  | t + 1 => cbT σ p t ||| cbits (gDD σ t) (gC σ t) p (gn σ t)
theorem min_s {i T : Nat} (h : i < T) : min (i + 1) T = min i T + 1 ∧ min i T = i := by omega
theorem min_e {i T : Nat} (h : ¬ i < T) : min (i + 1) T = min i T := by omega
set_option maxHeartbeats 4000000 in
theorem c_X3_balanceOf (hG : GOk G) (hC : CS h A σ P r) (p : Int32) : Ct G yX3_balanceOf (.code yX3_balanceOf cX3_balanceOf 7 (some .int)) 1 23 0 0 [.ref (A 0), .int p] h (is_i (balT σ p (gT σ)) h) pxN := by
  refine Ct.of (by decide +kernel) (Nat.le_of_ble_eq_true rfl) fun F hF hT hN hRm => ?_
  obtain ⟨hI, hT8, hA, h1, h2, h3, h4, h5, h6⟩ := id hC
  have loop : ∀ i, i ≤ 8 → V G F (fin G F (is_i (balT σ p (gT σ)) h) pxN) 0 0 14 [some (.ref (A 0)), some (.int p), some (.int (balT σ p (min i (gT σ)))), some (.ref (A 2)), some (.int (nI 8)), some (.int (nI i)), none] [] h := by
    refine lp_up 8 fun i hi ih => ?_
    refine V.run hF [(.iload 5, 2, .null), (.iload 4, 2, .null)] (pc' := 18) (L' := [some (.ref (A 0)), some (.int p), some (.int (balT σ p (min i (gT σ)))), some (.ref (A 2)), some (.int (nI 8)), some (.int (nI i)), none]) (st' := [.int (nI 8), .int (nI i)]) (by decide +kernel) rfl ?_
    refine V.icmpN_ge (i := i) (j := 8) hF (off := 32) (tgt := 50) (by decide +kernel) (by decide) (by omega) (by omega) (fun c1 => ?_) (fun c1 => ?_)
    · have e : min i (gT σ) = gT σ := by omega
      refine V.run hF [(.iload_n 2, 1, .null)] (pc' := 51) (L' := [some (.ref (A 0)), some (.int p), some (.int (balT σ p (min i (gT σ)))), some (.ref (A 2)), some (.int (nI 8)), some (.int (nI i)), none]) (st' := [.int (balT σ p (min i (gT σ)))]) (by decide +kernel) rfl ?_
      exact V.reti hF (by decide +kernel) ⟨by rw [e], rfl⟩
    · skip
      refine V.run hF [(.aload_n 3, 1, .null), (.iload 5, 2, .null)] (pc' := 24) (L' := [some (.ref (A 0)), some (.int p), some (.int (balT σ p (min i (gT σ)))), some (.ref (A 2)), some (.int (nI 8)), some (.int (nI i)), none]) (st' := [.int (nI i), .ref (A 2)]) (by decide +kernel) rfl ?_
      by_cases ht : i < gT σ
      · skip
        obtain ⟨e1, e2⟩ := min_s ht
        obtain ⟨t1, t2, t3⟩ := h6 i ht
        refine V.aaldS (j := i) (b := (A (12 + 6 * i))) hG hF (by decide +kernel) h2 (by omega) (by decide) (shf_in ht) ?_
        refine V.run hF [(.astore 6, 2, .null), (.aload 6, 2, .null)] (pc' := 29) (L' := [some (.ref (A 0)), some (.int p), some (.int (balT σ p (min i (gT σ)))), some (.ref (A 2)), some (.int (nI 8)), some (.int (nI i)), some (.ref (A (12 + 6 * i)))]) (st' := [.ref (A (12 + 6 * i))]) (by decide +kernel) rfl ?_
        refine V.ifnull1 hF (off := 15) (by decide +kernel) ?_
        refine V.run hF [(.iload_n 2, 1, .null), (.aload 6, 2, .null)] (pc' := 35) (L' := [some (.ref (A 0)), some (.int p), some (.int (balT σ p (min i (gT σ)))), some (.ref (A 2)), some (.int (nI 8)), some (.int (nI i)), some (.ref (A (12 + 6 * i)))]) (st' := [.ref (A (12 + 6 * i)), .int (balT σ p (min i (gT σ)))]) (by decide +kernel) rfl ?_
        refine V.getf hG hF k_RX3_56 (by decide +kernel) t1 rfl ?_
        refine V.run hF [(.iload_n 1, 1, .null)] (pc' := 39) (L' := [some (.ref (A 0)), some (.int p), some (.int (balT σ p (min i (gT σ)))), some (.ref (A 2)), some (.int (nI 8)), some (.int (nI i)), some (.ref (A (12 + 6 * i)))]) (st' := [.int p, .ref (A (13 + 6 * i)), .int (balT σ p (min i (gT σ)))]) (by decide +kernel) rfl ?_
        refine V.callVN (As := [.int p]) (st := [.int (balT σ p (min i (gT σ)))]) hG hF k_RX3_153 (by decide +kernel) (c_X0_balanceOf hG t2 t3 p) t2.1 rfl rfl ⟨by rw [hRm]; decide, by rw [hRm]; decide⟩ (Nat.le_of_ble_eq_true rfl) rfl (fun v h_1 gp1 => ?_)
        obtain ⟨rfl, he_gp1⟩ := gp1
        rw [he_gp1]
        show V G F _ _ _ 42 [some (.ref (A 0)), some (.int p), some (.int (balT σ p (min i (gT σ)))), some (.ref (A 2)), some (.int (nI 8)), some (.int (nI i)), some (.ref (A (12 + 6 * i)))] [.int (bal (gDD σ i) (gC σ i) (gM σ i) p (gn σ i)), .int (balT σ p (min i (gT σ)))] h
        refine V.run hF [(.iadd, 1, .null), (.istore_n 2, 1, .null), (.iinc 5 1, 3, .int 1), (.goto (-33), 3, .null)] (pc' := 14) (L' := [some (.ref (A 0)), some (.int p), some (.int (balT σ p (min i (gT σ)) + bal (gDD σ i) (gC σ i) (gM σ i) p (gn σ i))), some (.ref (A 2)), some (.int (nI 8)), some (.int ((nI i) + 1)), some (.ref (A (12 + 6 * i)))]) (st' := []) (by decide +kernel) rfl ?_
        rw [nI_1 i]
        have := ih c1
        rw [e1, balT, e2] at this
        rw [e2]
        exact V.loc (fun j v hv => by
          match j, hv with
          | 0, hv => exact hv
          | 1, hv => exact hv
          | 2, hv => exact hv
          | 3, hv => exact hv
          | 4, hv => exact hv
          | 5, hv => exact hv
          | 6, hv => cases hv
          | q + 7, hv => cases hv) this
      · skip
        refine V.aaldZ (j := i) hG hF (by decide +kernel) h2 (by omega) (by decide) (shf_out ht) ?_
        refine V.run hF [(.astore 6, 2, .null), (.aload 6, 2, .null)] (pc' := 29) (L' := [some (.ref (A 0)), some (.int p), some (.int (balT σ p (min i (gT σ)))), some (.ref (A 2)), some (.int (nI 8)), some (.int (nI i)), some (.null)]) (st' := [.null]) (by decide +kernel) rfl ?_
        refine V.ifnull0 hF (off := 15) (tgt := 44) (by decide +kernel) (by decide) ?_
        refine V.run hF [(.iinc 5 1, 3, .int 1), (.goto (-33), 3, .null)] (pc' := 14) (L' := [some (.ref (A 0)), some (.int p), some (.int (balT σ p (min i (gT σ)))), some (.ref (A 2)), some (.int (nI 8)), some (.int ((nI i) + 1)), some (.null)]) (st' := []) (by decide +kernel) rfl ?_
        rw [nI_1 i]
        have := ih c1
        rw [min_e ht] at this
        exact V.loc (fun j v hv => by
          match j, hv with
          | 0, hv => exact hv
          | 1, hv => exact hv
          | 2, hv => exact hv
          | 3, hv => exact hv
          | 4, hv => exact hv
          | 5, hv => exact hv
          | 6, hv => cases hv
          | q + 7, hv => cases hv) this
  refine V.run hF [(.iconst 0, 1, .int 0), (.istore_n 2, 1, .null), (.aload_n 0, 1, .null)] (pc' := 3) (L' := [some (.ref (A 0)), some (.int p), some (.int 0), none, none, none, none]) (st' := [.ref (A 0)]) (by decide +kernel) rfl ?_
  refine V.getf hG hF k_RX3_15 (by decide +kernel) hA rfl ?_
  refine V.run hF [(.astore_n 3, 1, .null), (.aload_n 3, 1, .null)] (pc' := 8) (L' := [some (.ref (A 0)), some (.int p), some (.int 0), some (.ref (A 2)), none, none, none]) (st' := [.ref (A 2)]) (by decide +kernel) rfl ?_
  refine V.alen hG hF (by decide +kernel) (by decide) h2 ?_
  show V G F _ _ _ 9 [some (.ref (A 0)), some (.int p), some (.int 0), some (.ref (A 2)), none, none, none] [.int (nI 8)] h
  refine V.run hF [(.istore 4, 2, .null), (.iconst 0, 1, .int 0), (.istore 5, 2, .null)] (pc' := 14) (L' := [some (.ref (A 0)), some (.int p), some (.int 0), some (.ref (A 2)), some (.int (nI 8)), some (.int 0), none]) (st' := []) (by decide +kernel) rfl ?_
  exact loop 0 (Nat.zero_le _)
end Hl
