/-! ===== TallyWax: what would be ===== -/
def pr (th : Nat → Int32) : Nat → (Nat → Int32) → Bool × Nat
  | 0, _ => (true, 0)
  | f + 1, b => if b (pmin b 7) < 0 then (match wf th (pmin b 7) (pmax b 7) 8 0 with
    | none => (false, 0)
    | some _ => ((pr th f (pb2 b (pmin b 7) (pmax b 7))).1, (pr th f (pb2 b (pmin b 7) (pmax b 7))).2 + 1)) else (true, 0)
theorem pl_pr {th : Nat → Int32} : ∀ (f : Nat) (s : PS), (pl th f s).1 = (pr th f (pB s)).1 ∧ pn (pl th f s).2 = pn s + (pr th f (pB s)).2
  | 0, s => ⟨rfl, rfl⟩
  | f + 1, s => by
    unfold pr
    by_cases hb : pB s (pmin (pB s) 7) < 0
    · rw [if_pos hb]
      cases hw : wf th (pmin (pB s) 7) (pmax (pB s) 7) 8 0 with
      | none =>
        rw [pl_none hb hw]
        exact ⟨rfl, rfl⟩
      | some w =>
        rw [pl_some hb hw]
        obtain ⟨e1, e2⟩ := pl_pr (th := th) f (pstp s (pmin (pB s) 7) (pmax (pB s) 7) w)
        refine ⟨e1, e2.trans ?_⟩
        show pn s + 1 + _ = pn s + (_ + 1)
        have : pB (pstp s (pmin (pB s) 7) (pmax (pB s) 7) w) = pb2 (pB s) (pmin (pB s) 7) (pmax (pB s) 7) := rfl
        rw [this]
        omega
    · rw [if_neg hb, pl_neg hb]
      exact ⟨rfl, rfl⟩
theorem pr_le {th : Nat → Int32} : ∀ (f : Nat) (b : Nat → Int32), (pr th f b).2 ≤ f
  | 0, _ => Nat.le_refl _
  | f + 1, b => by
    unfold pr
    split
    · split
      · exact Nat.zero_le _
      · exact Nat.succ_le_succ (pr_le f _)
    · exact Nat.zero_le _
abbrev gbal (σ : Sg) (t : Nat) : Nat → Int32 := balN (gDD σ t) (gC σ t) (gM σ t) (gn σ t)
def lf (σ : Sg) (t : Nat) : Int32 := if (pr (gth σ) 8 (gbal σ t)).1 = true then nI (pr (gth σ) 8 (gbal σ t)).2 else -1
def sv (σ : Sg) (t : Nat) : Int32 := if lf σ t = -1 then 0 else nI (gn σ t) - lf σ t
section Ca
variable {G : Gt} {h : Hp} {A : Nat → Nat} {σ : Sg} {P : PS} {r : Nat → Int32}
theorem CS.nd6 (hC : CS h A σ P r) : nd6 (A 6) (A 7) (A 8) (A 9) (A 10) (A 11) := by
  have n : ∀ i j, i < 12 → j < 12 → i ≠ j → A i ≠ A j := fun i j hi hj => hC.1.ne (by omega) (by omega)
  exact ⟨⟨n _ _ (by omega) (by omega) (by omega), n _ _ (by omega) (by omega) (by omega), n _ _ (by omega) (by omega) (by omega), n _ _ (by omega) (by omega) (by omega), n _ _ (by omega) (by omega) (by omega)⟩, n _ _ (by omega) (by omega) (by omega), n _ _ (by omega) (by omega) (by omega), n _ _ (by omega) (by omega) (by omega), n _ _ (by omega) (by omega) (by omega), n _ _ (by omega) (by omega) (by omega), n _ _ (by omega) (by omega) (by omega)⟩
theorem CS.dj6 (hC : CS h A σ P r) {t : Nat} (ht : t < gT σ) : dj6 [A (13 + 6 * t), A (14 + 6 * t), A (15 + 6 * t), A (16 + 6 * t), A (17 + 6 * t), A 1] (A 6) (A 7) (A 8) (A 9) (A 10) (A 11) := by
  intro x hx y hy
  simp only [List.mem_cons, List.not_mem_nil, or_false] at hx hy
  rcases hx with rfl | rfl | rfl | rfl | rfl | rfl <;> rcases hy with rfl | rfl | rfl | rfl | rfl | rfl <;> exact hC.1.ne (by omega) (by omega) (by omega)
theorem CS.nd4 (hC : CS h A σ P r) {t : Nat} (ht : t < gT σ) : nd4 (A (14 + 6 * t)) (A (15 + 6 * t)) (A (16 + 6 * t)) (A (17 + 6 * t)) := by
  have n : ∀ i j, i < 12 + 6 * gT σ → j < 12 + 6 * gT σ → i ≠ j → A i ≠ A j := fun i j hi hj => hC.1.ne hi hj
  exact ⟨n _ _ (by omega) (by omega) (by omega), n _ _ (by omega) (by omega) (by omega), n _ _ (by omega) (by omega) (by omega), n _ _ (by omega) (by omega) (by omega), n _ _ (by omega) (by omega) (by omega), n _ _ (by omega) (by omega) (by omega)⟩
/-- the answer x, the state as it was, but what smoothing reckons on -/
def is_s (A : Nat → Nat) (σ : Sg) (r : Nat → Int32) (h : Hp) (x : Int32) : Option Value → Hp → Prop := fun v h' => v = some (.int x) ∧ ∃ P', CS h' A σ P' r ∧ kpC h h' A (12 + 6 * gT σ)
set_option maxHeartbeats 4000000 in
theorem c_X3_linesLeftOn (hG : GOk G) (hC : CS h A σ P r) {t : Nat} (ht : t < gT σ) : Ct G yX3_linesLeftOn (.code yX3_linesLeftOn cX3_linesLeftOn 2 (some .int)) 3 74 0 0 [.ref (A 0), .ref (A (12 + 6 * t))] h (is_s A σ r h (lf σ t)) pxN := by
  refine Ct.of (by decide +kernel) (Nat.le_of_ble_eq_true rfl) fun F hF hT hN hRm => ?_
  obtain ⟨hI, hT8, hA, h1, h2, h3, h4, h5, h6⟩ := id hC
  obtain ⟨t1, t2, t3⟩ := h6 t ht
  refine V.run hF [(.aload_n 0, 1, .null)] (pc' := 1) (L' := [some (.ref (A 0)), some (.ref (A (12 + 6 * t)))]) (st' := [.ref (A 0)]) (by decide +kernel) rfl ?_
  refine V.getf hG hF k_RX3_26 (by decide +kernel) hA rfl ?_
  refine V.run hF [(.aload_n 1, 1, .null)] (pc' := 5) (L' := [some (.ref (A 0)), some (.ref (A (12 + 6 * t)))]) (st' := [.ref (A (12 + 6 * t)), .ref (A 4)]) (by decide +kernel) rfl ?_
  refine V.getf hG hF k_RX3_56 (by decide +kernel) t1 rfl ?_
  refine V.run hF [(.aload_n 0, 1, .null)] (pc' := 9) (L' := [some (.ref (A 0)), some (.ref (A (12 + 6 * t)))]) (st' := [.ref (A 0), .ref (A (13 + 6 * t)), .ref (A 4)]) (by decide +kernel) rfl ?_
  refine V.getf hG hF k_RX3_9 (by decide +kernel) hA rfl ?_
  refine V.callVN (As := [.ref (A (13 + 6 * t)), .ref (A 1)]) (st := []) hG hF k_RX3_109 (by decide +kernel) (c_X1_plan hG h4 hC.nd6 t2 t3 h1 (hC.dj6 ht)) h4.1 rfl rfl ⟨by rw [hRm]; decide, by rw [hRm]; decide⟩ (Nat.le_of_ble_eq_true rfl) rfl (fun v h2 hp => ?_)
  obtain ⟨rfl, hS, hk⟩ := hp
  obtain ⟨e1, e2⟩ := pl_pr (th := gth σ) 8 (pl0 (gDD σ t) (gC σ t) (gM σ t) (gn σ t) P)
  rw [e1]
  have hC2 := hC.sm hS hk
  have hkC : kpC h h2 A (12 + 6 * gT σ) := kpC.k6 (by omega) hk
  obtain ⟨-, -, hA2, -, -, -, h42, -, -⟩ := id hC2
  have e3 : pn (pl (gth σ) 8 (pl0 (gDD σ t) (gC σ t) (gM σ t) (gn σ t) P)).2 = (pr (gth σ) 8 (gbal σ t)).2 := e2.trans (Nat.zero_add _)
  have hLL := h42.2.2
  rw [LLc, e3] at hLL
  show V G F _ _ _ 15 [some (.ref (A 0)), some (.ref (A (12 + 6 * t)))] [.int (tf ((pr (gth σ) 8 (gbal σ t)).1 = true))] h2
  refine V.if_eq hF (off := 16) (tgt := 31) (by decide +kernel) (by decide) (fun c1 => ?_) (fun c1 => ?_)
  · have q : ¬ (pr (gth σ) 8 (gbal σ t)).1 = true := fun q => by
      rw [tf, if_pos q] at c1; cases c1
    refine V.run hF [(.iconst (-1), 1, .int (-1))] (pc' := 32) (L' := [some (.ref (A 0)), some (.ref (A (12 + 6 * t)))]) (st' := [.int (-1)]) (by decide +kernel) rfl ?_
    exact V.reti hF (by decide +kernel) ⟨by rw [lf, if_neg q], _, hC2, hkC⟩
  · skip
    have q : (pr (gth σ) 8 (gbal σ t)).1 = true := by
      by_cases q : (pr (gth σ) 8 (gbal σ t)).1 = true
      · exact q
      · rw [tf, if_neg q] at c1; exact absurd rfl c1
    refine V.run hF [(.aload_n 0, 1, .null)] (pc' := 19) (L' := [some (.ref (A 0)), some (.ref (A (12 + 6 * t)))]) (st' := [.ref (A 0)]) (by decide +kernel) rfl ?_
    refine V.getf hG hF k_RX3_26 (by decide +kernel) hA2 rfl ?_
    refine V.getf hG hF k_RX3_115 (by decide +kernel) h42.1 rfl ?_
    refine V.getf hG hF k_RX3_67 (by decide +kernel) hLL.1 rfl ?_
    refine V.run hF [(.goto 4, 3, .null)] (pc' := 32) (L' := [some (.ref (A 0)), some (.ref (A (12 + 6 * t)))]) (st' := [.int (nI (pr (gth σ) 8 (gbal σ t)).2)]) (by decide +kernel) rfl ?_
    exact V.reti hF (by decide +kernel) ⟨by rw [lf, if_pos q], _, hC2, hkC⟩
/-- best so far, and by how much -/
def bst (σ : Sg) : Nat → Int32 × Int32
  | 0 => (-1, 0)
  | i + 1 => if (bst σ i).2 < (if i < gT σ then sv σ i else 0) then (nI i, if i < gT σ then sv σ i else 0) else bst σ i
set_option maxHeartbeats 4000000 in
theorem c_X3_richest (hG : GOk G) (hC : CS h A σ P r) : Ct G yX3_richest (.code yX3_richest cX3_richest 5 (some .int)) 2 49 0 0 [.ref (A 0)] h (is_i (nI (pmax (fun p => balT σ (nI p) (gT σ)) 7)) h) pxN := by
  refine Ct.of (by decide +kernel) (Nat.le_of_ble_eq_true rfl) fun F hF hT hN hRm => ?_
  obtain ⟨B, hB⟩ : ∃ B : Nat → Int32, B = fun p => balT σ (nI p) (gT σ) := ⟨_, rfl⟩
  rw [← hB]
  have cB : ∀ p : Nat, Ct G yX3_balanceOf (.code yX3_balanceOf cX3_balanceOf 7 (some .int)) 1 23 0 0 [.ref (A 0), .int (nI p)] h (is_i (B p) h) pxN := fun p => by
    rw [hB]
    exact c_X3_balanceOf hG hC (nI p)
  have loop : ∀ i, i ≤ 7 → V G F (fin G F (is_i (nI (pmax B 7)) h) pxN) 0 0 10 [some (.ref (A 0)), some (.int (nI (pmax B i))), some (.int (B (pmax B i))), some (.int (nI (i + 1))), none] [] h := by
    refine lp_up 7 fun i hi ih => ?_
    have dr : ∀ {x y : Int32} {u : Option Value}, V G F (fin G F (is_i (nI (pmax B 7)) h) pxN) 0 0 10 [some (.ref (A 0)), some (.int x), some (.int y), some (.int (nI (i + 1 + 1))), none] [] h → V G F (fin G F (is_i (nI (pmax B 7)) h) pxN) 0 0 10 [some (.ref (A 0)), some (.int x), some (.int y), some (.int (nI (i + 1 + 1))), u] [] h := fun k => V.loc (fun j v hv => by
      match j, hv with
      | 0, hv => exact hv
      | 1, hv => exact hv
      | 2, hv => exact hv
      | 3, hv => exact hv
      | 4, hv => cases hv
      | q + 5, hv => cases hv) k
    refine V.run hF [(.iload_n 3, 1, .null), (.bipush 8, 2, .int (nI 8))] (pc' := 13) (L' := [some (.ref (A 0)), some (.int (nI (pmax B i))), some (.int (B (pmax B i))), some (.int (nI (i + 1))), none]) (st' := [.int (nI 8), .int (nI (i + 1))]) (by decide +kernel) rfl ?_
    refine V.icmpN_ge (i := i + 1) (j := 8) hF (off := 27) (tgt := 40) (by decide +kernel) (by decide) (by omega) (by omega) (fun c1 => ?_) (fun c1 => ?_)
    · have e : i = 7 := by omega
      refine V.run hF [(.iload_n 1, 1, .null)] (pc' := 41) (L' := [some (.ref (A 0)), some (.int (nI (pmax B i))), some (.int (B (pmax B i))), some (.int (nI (i + 1))), none]) (st' := [.int (nI (pmax B i))]) (by decide +kernel) rfl ?_
      exact V.reti hF (by decide +kernel) ⟨by rw [e], rfl⟩
    · skip
      refine V.run hF [(.aload_n 0, 1, .null), (.iload_n 3, 1, .null)] (pc' := 18) (L' := [some (.ref (A 0)), some (.int (nI (pmax B i))), some (.int (B (pmax B i))), some (.int (nI (i + 1))), none]) (st' := [.int (nI (i + 1)), .ref (A 0)]) (by decide +kernel) rfl ?_
      refine V.callV (As := [.int (nI (i + 1))]) (st := []) hG hF k_RX3_149 (by decide +kernel) (cB (i + 1)) hC.2.2.1 rfl rfl ⟨by rw [hRm]; decide, by rw [hRm]; decide⟩ (Nat.le_of_ble_eq_true rfl) rfl (fun v h_1 gp1 => ?_) (fun E h9 hx => hx.elim)
      obtain ⟨rfl, he_gp1⟩ := gp1
      rw [he_gp1]
      show V G F _ _ _ 21 [some (.ref (A 0)), some (.int (nI (pmax B i))), some (.int (B (pmax B i))), some (.int (nI (i + 1))), none] [.int (B (i + 1))] h
      refine V.run hF [(.istore 4, 2, .null), (.iload 4, 2, .null), (.iload_n 2, 1, .null)] (pc' := 26) (L' := [some (.ref (A 0)), some (.int (nI (pmax B i))), some (.int (B (pmax B i))), some (.int (nI (i + 1))), some (.int (B (i + 1)))]) (st' := [.int (B (pmax B i)), .int (B (i + 1))]) (by decide +kernel) rfl ?_
      have := ih (by omega)
      refine V.icmp_le hF (off := 8) (tgt := 34) (by decide +kernel) (by decide) (fun c2 => ?_) (fun c2 => ?_)
      · skip
        refine V.run hF [(.iinc 3 1, 3, .int 1), (.goto (-27), 3, .null)] (pc' := 10) (L' := [some (.ref (A 0)), some (.int (nI (pmax B i))), some (.int (B (pmax B i))), some (.int ((nI (i + 1)) + 1)), some (.int (B (i + 1)))]) (st' := []) (by decide +kernel) rfl ?_
        rw [nI_1 (i + 1)]
        have e : pmax B (i + 1) = pmax B i := by rw [pmax, if_neg (Int32.not_lt.mpr c2)]
        rw [e] at this
        exact dr this
      · skip
        refine V.run hF [(.iload_n 3, 1, .null), (.istore_n 1, 1, .null), (.iload 4, 2, .null), (.istore_n 2, 1, .null), (.iinc 3 1, 3, .int 1), (.goto (-27), 3, .null)] (pc' := 10) (L' := [some (.ref (A 0)), some (.int (nI (i + 1))), some (.int (B (i + 1))), some (.int ((nI (i + 1)) + 1)), some (.int (B (i + 1)))]) (st' := []) (by decide +kernel) rfl ?_
        rw [nI_1 (i + 1)]
        have e : pmax B (i + 1) = i + 1 := by rw [pmax, if_pos (Int32.not_le.mp c2)]
        rw [e] at this
        exact dr this
  refine V.run hF [(.iconst 0, 1, .int 0), (.istore_n 1, 1, .null), (.aload_n 0, 1, .null), (.iconst 0, 1, .int (nI 0))] (pc' := 4) (L' := [some (.ref (A 0)), some (.int 0), none, none, none]) (st' := [.int (nI 0), .ref (A 0)]) (by decide +kernel) rfl ?_
  refine V.callV (As := [.int (nI 0)]) (st := []) hG hF k_RX3_149 (by decide +kernel) (cB 0) hC.2.2.1 rfl rfl ⟨by rw [hRm]; decide, by rw [hRm]; decide⟩ (Nat.le_of_ble_eq_true rfl) rfl (fun v h_2 gp2 => ?_) (fun E h9 hx => hx.elim)
  obtain ⟨rfl, he_gp2⟩ := gp2
  rw [he_gp2]
  show V G F _ _ _ 7 [some (.ref (A 0)), some (.int 0), none, none, none] [.int (B 0)] h
  refine V.run hF [(.istore_n 2, 1, .null), (.iconst 1, 1, .int 1), (.istore_n 3, 1, .null)] (pc' := 10) (L' := [some (.ref (A 0)), some (.int 0), some (.int (B 0)), some (.int 1), none]) (st' := []) (by decide +kernel) rfl ?_
  exact loop 0 (Nat.zero_le _)
end Ca
