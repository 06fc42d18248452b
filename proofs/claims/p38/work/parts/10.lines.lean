/-! ===== LineList: at most 12 lines as four rows ===== -/
def LLc (h : Hp) (a d c m w : Nat) (D C M W : Nat → Int32) (n : Nat) : Prop := h a = some (.inr (0, [.ref d, .ref c, .ref m, .ref w, .int (nI n)])) ∧ h d = some (.inl (0, 12, .inl D)) ∧ h c = some (.inl (0, 12, .inl C)) ∧ h m = some (.inl (0, 12, .inl M)) ∧ h w = some (.inl (0, 12, .inl W))
def nd4 (d c m w : Nat) : Prop := d ≠ c ∧ d ≠ m ∧ d ≠ w ∧ c ≠ m ∧ c ≠ w ∧ m ≠ w
def nd5 (a d c m w : Nat) : Prop := (a ≠ d ∧ a ≠ c ∧ a ≠ m ∧ a ≠ w) ∧ nd4 d c m w
theorem LLc.nd {h : Hp} {a d c m w n : Nat} {D C M W : Nat → Int32} (hL : LLc h a d c m w D C M W n) (h4 : nd4 d c m w) : nd5 a d c m w := by
  obtain ⟨h1, h2, h3, h5, h6⟩ := hL
  refine ⟨⟨?_, ?_, ?_, ?_⟩, h4⟩ <;> (rintro rfl; rw [h1] at *; simp at *)
/-- what a person has by the first lines -/
def bal (D C M : Nat → Int32) (p : Int32) : Nat → Int32
  | 0 => 0
  | j + 1 => if C j = p then bal D C M p j + M j else if D j = p then bal D C M p j - M j else bal D C M p j
def sm (M : Nat → Int32) : Nat → Int32
  | 0 => 0
  | j + 1 => sm M j + M j
def owe (D C M : Nat → Int32) (p q : Int32) : Nat → Int32
  | 0 => 0
  | j + 1 => if D j = p ∧ C j = q then owe D C M p q j + M j else owe D C M p q j
def wit (M W : Nat → Int32) (p : Int32) : Nat → Int32
  | 0 => 0
  | j + 1 => if W j = p then wit M W p j + M j else wit M W p j
def cbits (D C : Nat → Int32) (p : Int32) : Nat → Int32
  | 0 => 0
  | j + 1 => if D j = p then cbits D C p j ||| (1 <<< (C j &&& 31)) else cbits D C p j
abbrev is_i (r : Int32) (h : Hp) : Option Value → Hp → Prop := fun v h' => v = some (.int r) ∧ h' = h
section LLs
variable {G : Gt} {h : Hp} {a d c m w n : Nat} {D C M W : Nat → Int32}
set_option maxHeartbeats 4000000 in
theorem c_X0_balanceOf (hG : GOk G) (hL : LLc h a d c m w D C M W n) (hn : n ≤ 12) (p : Int32) :
    Ct G yX0_balanceOf (.code yX0_balanceOf cX0_balanceOf 4 (some .int)) 0 0 0 0 [.ref a, .int p] h (is_i (bal D C M p n) h) pxN := by
  refine Ct.of (by decide +kernel) (Nat.le_of_ble_eq_true rfl) fun F hF hT hN hRm => ?_
  obtain ⟨hA, hd, hc, hm, hw⟩ := hL
  have loop : ∀ i, i ≤ n → V G F (fin G F (is_i (bal D C M p n) h) pxN) 0 0 4 [some (.ref a), some (.int p), some (.int (bal D C M p i)), some (.int (nI i))] [] h := by
    refine lp_up n fun i hi ih => ?_
    refine V.run hF [(.iload_n 3, 1, .null), (.aload_n 0, 1, .null)] (pc' := 6) (L' := [some (.ref a), some (.int p), some (.int (bal D C M p i)), some (.int (nI i))]) (st' := [.ref a, .int (nI i)]) (by decide +kernel) rfl ?_
    refine V.getf hG hF k_RX0_24 (by decide +kernel) hA rfl ?_
    refine V.icmpN_ge (i := i) (j := n) hF (off := 50) (tgt := 59) (by decide +kernel) (by decide) (by omega) (by omega) (fun c1 => ?_) (fun c1 => ?_)
    · obtain rfl : i = n := by omega
      refine V.run hF [(.iload_n 2, 1, .null)] (pc' := 60) (L' := [some (.ref a), some (.int p), some (.int (bal D C M p i)), some (.int (nI i))]) (st' := [.int (bal D C M p i)]) (by decide +kernel) rfl ?_
      exact V.reti hF (by decide +kernel) ⟨rfl, rfl⟩
    · skip
      refine V.run hF [(.aload_n 0, 1, .null)] (pc' := 13) (L' := [some (.ref a), some (.int p), some (.int (bal D C M p i)), some (.int (nI i))]) (st' := [.ref a]) (by decide +kernel) rfl ?_
      refine V.getf hG hF k_RX0_15 (by decide +kernel) hA rfl ?_
      refine V.run hF [(.iload_n 3, 1, .null)] (pc' := 17) (L' := [some (.ref a), some (.int p), some (.int (bal D C M p i)), some (.int (nI i))]) (st' := [.int (nI i), .ref c]) (by decide +kernel) rfl ?_
      refine V.ialdN (j := i) hG hF (by decide +kernel) hc (by omega) (by decide) ?_
      refine V.run hF [(.iload_n 1, 1, .null)] (pc' := 19) (L' := [some (.ref a), some (.int p), some (.int (bal D C M p i)), some (.int (nI i))]) (st' := [.int p, .int (C i)]) (by decide +kernel) rfl ?_
      refine V.icmp_ne hF (off := 15) (tgt := 34) (by decide +kernel) (by decide) (fun c2 => ?_) (fun c2 => ?_)
      · skip
        refine V.run hF [(.aload_n 0, 1, .null)] (pc' := 35) (L' := [some (.ref a), some (.int p), some (.int (bal D C M p i)), some (.int (nI i))]) (st' := [.ref a]) (by decide +kernel) rfl ?_
        refine V.getf hG hF k_RX0_9 (by decide +kernel) hA rfl ?_
        refine V.run hF [(.iload_n 3, 1, .null)] (pc' := 39) (L' := [some (.ref a), some (.int p), some (.int (bal D C M p i)), some (.int (nI i))]) (st' := [.int (nI i), .ref d]) (by decide +kernel) rfl ?_
        refine V.ialdN (j := i) hG hF (by decide +kernel) hd (by omega) (by decide) ?_
        refine V.run hF [(.iload_n 1, 1, .null)] (pc' := 41) (L' := [some (.ref a), some (.int p), some (.int (bal D C M p i)), some (.int (nI i))]) (st' := [.int p, .int (D i)]) (by decide +kernel) rfl ?_
        refine V.icmp_ne hF (off := 12) (tgt := 53) (by decide +kernel) (by decide) (fun c3 => ?_) (fun c3 => ?_)
        · skip
          refine V.run hF [(.iinc 3 1, 3, .int 1), (.goto (-52), 3, .null)] (pc' := 4) (L' := [some (.ref a), some (.int p), some (.int (bal D C M p i)), some (.int ((nI i) + 1))]) (st' := []) (by decide +kernel) rfl ?_
          rw [nI_1 i]
          rw [show bal D C M p i = bal D C M p (i + 1) by simp [bal, c2, c3]]
          exact ih c1
        · skip
          refine V.run hF [(.iload_n 2, 1, .null), (.aload_n 0, 1, .null)] (pc' := 46) (L' := [some (.ref a), some (.int p), some (.int (bal D C M p i)), some (.int (nI i))]) (st' := [.ref a, .int (bal D C M p i)]) (by decide +kernel) rfl ?_
          refine V.getf hG hF k_RX0_18 (by decide +kernel) hA rfl ?_
          refine V.run hF [(.iload_n 3, 1, .null)] (pc' := 50) (L' := [some (.ref a), some (.int p), some (.int (bal D C M p i)), some (.int (nI i))]) (st' := [.int (nI i), .ref m, .int (bal D C M p i)]) (by decide +kernel) rfl ?_
          refine V.ialdN (j := i) hG hF (by decide +kernel) hm (by omega) (by decide) ?_
          refine V.run hF [(.isub, 1, .null), (.istore_n 2, 1, .null), (.iinc 3 1, 3, .int 1), (.goto (-52), 3, .null)] (pc' := 4) (L' := [some (.ref a), some (.int p), some (.int (bal D C M p i - M i)), some (.int ((nI i) + 1))]) (st' := []) (by decide +kernel) rfl ?_
          rw [nI_1 i]
          rw [show bal D C M p i - M i = bal D C M p (i + 1) by simp [bal, c2, c3]]
          exact ih c1
      · skip
        refine V.run hF [(.iload_n 2, 1, .null), (.aload_n 0, 1, .null)] (pc' := 24) (L' := [some (.ref a), some (.int p), some (.int (bal D C M p i)), some (.int (nI i))]) (st' := [.ref a, .int (bal D C M p i)]) (by decide +kernel) rfl ?_
        refine V.getf hG hF k_RX0_18 (by decide +kernel) hA rfl ?_
        refine V.run hF [(.iload_n 3, 1, .null)] (pc' := 28) (L' := [some (.ref a), some (.int p), some (.int (bal D C M p i)), some (.int (nI i))]) (st' := [.int (nI i), .ref m, .int (bal D C M p i)]) (by decide +kernel) rfl ?_
        refine V.ialdN (j := i) hG hF (by decide +kernel) hm (by omega) (by decide) ?_
        refine V.run hF [(.iadd, 1, .null), (.istore_n 2, 1, .null), (.goto 22, 3, .null), (.iinc 3 1, 3, .int 1), (.goto (-52), 3, .null)] (pc' := 4) (L' := [some (.ref a), some (.int p), some (.int (bal D C M p i + M i)), some (.int ((nI i) + 1))]) (st' := []) (by decide +kernel) rfl ?_
        rw [nI_1 i]
        rw [show bal D C M p i + M i = bal D C M p (i + 1) by simp [bal, c2]]
        exact ih c1
  refine V.run hF [(.iconst 0, 1, .int 0), (.istore_n 2, 1, .null), (.iconst 0, 1, .int 0), (.istore_n 3, 1, .null)] (pc' := 4) (L' := [some (.ref a), some (.int p), some (.int 0), some (.int 0)]) (st' := []) (by decide +kernel) rfl ?_
  exact loop 0 (Nat.zero_le _)
set_option maxHeartbeats 4000000 in
theorem c_X0_sum (hG : GOk G) (hL : LLc h a d c m w D C M W n) (hn : n ≤ 12) :
    Ct G yX0_sum (.code yX0_sum cX0_sum 3 (some .int)) 0 0 0 0 [.ref a] h (is_i (sm M n) h) pxN := by
  refine Ct.of (by decide +kernel) (Nat.le_of_ble_eq_true rfl) fun F hF hT hN hRm => ?_
  obtain ⟨hA, hd, hc, hm, hw⟩ := hL
  have loop : ∀ i, i ≤ n → V G F (fin G F (is_i (sm M n) h) pxN) 0 0 4 [some (.ref a), some (.int (sm M i)), some (.int (nI i))] [] h := by
    refine lp_up n fun i hi ih => ?_
    refine V.run hF [(.iload_n 2, 1, .null), (.aload_n 0, 1, .null)] (pc' := 6) (L' := [some (.ref a), some (.int (sm M i)), some (.int (nI i))]) (st' := [.ref a, .int (nI i)]) (by decide +kernel) rfl ?_
    refine V.getf hG hF k_RX0_24 (by decide +kernel) hA rfl ?_
    refine V.icmpN_ge (i := i) (j := n) hF (off := 18) (tgt := 27) (by decide +kernel) (by decide) (by omega) (by omega) (fun c1 => ?_) (fun c1 => ?_)
    · obtain rfl : i = n := by omega
      refine V.run hF [(.iload_n 1, 1, .null)] (pc' := 28) (L' := [some (.ref a), some (.int (sm M i)), some (.int (nI i))]) (st' := [.int (sm M i)]) (by decide +kernel) rfl ?_
      exact V.reti hF (by decide +kernel) ⟨rfl, rfl⟩
    · skip
      refine V.run hF [(.iload_n 1, 1, .null), (.aload_n 0, 1, .null)] (pc' := 14) (L' := [some (.ref a), some (.int (sm M i)), some (.int (nI i))]) (st' := [.ref a, .int (sm M i)]) (by decide +kernel) rfl ?_
      refine V.getf hG hF k_RX0_18 (by decide +kernel) hA rfl ?_
      refine V.run hF [(.iload_n 2, 1, .null)] (pc' := 18) (L' := [some (.ref a), some (.int (sm M i)), some (.int (nI i))]) (st' := [.int (nI i), .ref m, .int (sm M i)]) (by decide +kernel) rfl ?_
      refine V.ialdN (j := i) hG hF (by decide +kernel) hm (by omega) (by decide) ?_
      refine V.run hF [(.iadd, 1, .null), (.istore_n 1, 1, .null), (.iinc 2 1, 3, .int 1), (.goto (-20), 3, .null)] (pc' := 4) (L' := [some (.ref a), some (.int (sm M i + M i)), some (.int ((nI i) + 1))]) (st' := []) (by decide +kernel) rfl ?_
      rw [nI_1 i]
      exact ih c1
  refine V.run hF [(.iconst 0, 1, .int 0), (.istore_n 1, 1, .null), (.iconst 0, 1, .int 0), (.istore_n 2, 1, .null)] (pc' := 4) (L' := [some (.ref a), some (.int 0), some (.int 0)]) (st' := []) (by decide +kernel) rfl ?_
  exact loop 0 (Nat.zero_le _)
set_option maxHeartbeats 4000000 in
theorem c_X0_owedBetween (hG : GOk G) (hL : LLc h a d c m w D C M W n) (hn : n ≤ 12) (p q : Int32) :
    Ct G yX0_owedBetween (.code yX0_owedBetween cX0_owedBetween 5 (some .int)) 0 0 0 0 [.ref a, .int p, .int q] h (is_i (owe D C M p q n) h) pxN := by
  refine Ct.of (by decide +kernel) (Nat.le_of_ble_eq_true rfl) fun F hF hT hN hRm => ?_
  obtain ⟨hA, hd, hc, hm, hw⟩ := hL
  have loop : ∀ i, i ≤ n → V G F (fin G F (is_i (owe D C M p q n) h) pxN) 0 0 5 [some (.ref a), some (.int p), some (.int q), some (.int (owe D C M p q i)), some (.int (nI i))] [] h := by
    refine lp_up n fun i hi ih => ?_
    refine V.run hF [(.iload 4, 2, .null), (.aload_n 0, 1, .null)] (pc' := 8) (L' := [some (.ref a), some (.int p), some (.int q), some (.int (owe D C M p q i)), some (.int (nI i))]) (st' := [.ref a, .int (nI i)]) (by decide +kernel) rfl ?_
    refine V.getf hG hF k_RX0_24 (by decide +kernel) hA rfl ?_
    refine V.icmpN_ge (i := i) (j := n) hF (off := 41) (tgt := 52) (by decide +kernel) (by decide) (by omega) (by omega) (fun c1 => ?_) (fun c1 => ?_)
    · obtain rfl : i = n := by omega
      refine V.run hF [(.iload_n 3, 1, .null)] (pc' := 53) (L' := [some (.ref a), some (.int p), some (.int q), some (.int (owe D C M p q i)), some (.int (nI i))]) (st' := [.int (owe D C M p q i)]) (by decide +kernel) rfl ?_
      exact V.reti hF (by decide +kernel) ⟨rfl, rfl⟩
    · skip
      refine V.run hF [(.aload_n 0, 1, .null)] (pc' := 15) (L' := [some (.ref a), some (.int p), some (.int q), some (.int (owe D C M p q i)), some (.int (nI i))]) (st' := [.ref a]) (by decide +kernel) rfl ?_
      refine V.getf hG hF k_RX0_9 (by decide +kernel) hA rfl ?_
      refine V.run hF [(.iload 4, 2, .null)] (pc' := 20) (L' := [some (.ref a), some (.int p), some (.int q), some (.int (owe D C M p q i)), some (.int (nI i))]) (st' := [.int (nI i), .ref d]) (by decide +kernel) rfl ?_
      refine V.ialdN (j := i) hG hF (by decide +kernel) hd (by omega) (by decide) ?_
      refine V.run hF [(.iload_n 1, 1, .null)] (pc' := 22) (L' := [some (.ref a), some (.int p), some (.int q), some (.int (owe D C M p q i)), some (.int (nI i))]) (st' := [.int p, .int (D i)]) (by decide +kernel) rfl ?_
      refine V.icmp_ne hF (off := 24) (tgt := 46) (by decide +kernel) (by decide) (fun c2 => ?_) (fun c2 => ?_)
      · skip
        refine V.run hF [(.iinc 4 1, 3, .int 1), (.goto (-44), 3, .null)] (pc' := 5) (L' := [some (.ref a), some (.int p), some (.int q), some (.int (owe D C M p q i)), some (.int ((nI i) + 1))]) (st' := []) (by decide +kernel) rfl ?_
        rw [nI_1 i]
        rw [show owe D C M p q i = owe D C M p q (i + 1) by simp [owe, c2]]
        exact ih c1
      · skip
        refine V.run hF [(.aload_n 0, 1, .null)] (pc' := 26) (L' := [some (.ref a), some (.int p), some (.int q), some (.int (owe D C M p q i)), some (.int (nI i))]) (st' := [.ref a]) (by decide +kernel) rfl ?_
        refine V.getf hG hF k_RX0_15 (by decide +kernel) hA rfl ?_
        refine V.run hF [(.iload 4, 2, .null)] (pc' := 31) (L' := [some (.ref a), some (.int p), some (.int q), some (.int (owe D C M p q i)), some (.int (nI i))]) (st' := [.int (nI i), .ref c]) (by decide +kernel) rfl ?_
        refine V.ialdN (j := i) hG hF (by decide +kernel) hc (by omega) (by decide) ?_
        refine V.run hF [(.iload_n 2, 1, .null)] (pc' := 33) (L' := [some (.ref a), some (.int p), some (.int q), some (.int (owe D C M p q i)), some (.int (nI i))]) (st' := [.int q, .int (C i)]) (by decide +kernel) rfl ?_
        refine V.icmp_ne hF (off := 13) (tgt := 46) (by decide +kernel) (by decide) (fun c3 => ?_) (fun c3 => ?_)
        · skip
          refine V.run hF [(.iinc 4 1, 3, .int 1), (.goto (-44), 3, .null)] (pc' := 5) (L' := [some (.ref a), some (.int p), some (.int q), some (.int (owe D C M p q i)), some (.int ((nI i) + 1))]) (st' := []) (by decide +kernel) rfl ?_
          rw [nI_1 i]
          rw [show owe D C M p q i = owe D C M p q (i + 1) by simp [owe, c2, c3]]
          exact ih c1
        · skip
          refine V.run hF [(.iload_n 3, 1, .null), (.aload_n 0, 1, .null)] (pc' := 38) (L' := [some (.ref a), some (.int p), some (.int q), some (.int (owe D C M p q i)), some (.int (nI i))]) (st' := [.ref a, .int (owe D C M p q i)]) (by decide +kernel) rfl ?_
          refine V.getf hG hF k_RX0_18 (by decide +kernel) hA rfl ?_
          refine V.run hF [(.iload 4, 2, .null)] (pc' := 43) (L' := [some (.ref a), some (.int p), some (.int q), some (.int (owe D C M p q i)), some (.int (nI i))]) (st' := [.int (nI i), .ref m, .int (owe D C M p q i)]) (by decide +kernel) rfl ?_
          refine V.ialdN (j := i) hG hF (by decide +kernel) hm (by omega) (by decide) ?_
          refine V.run hF [(.iadd, 1, .null), (.istore_n 3, 1, .null), (.iinc 4 1, 3, .int 1), (.goto (-44), 3, .null)] (pc' := 5) (L' := [some (.ref a), some (.int p), some (.int q), some (.int (owe D C M p q i + M i)), some (.int ((nI i) + 1))]) (st' := []) (by decide +kernel) rfl ?_
          rw [nI_1 i]
          rw [show owe D C M p q i + M i = owe D C M p q (i + 1) by simp [owe, c2, c3]]
          exact ih c1
  refine V.run hF [(.iconst 0, 1, .int 0), (.istore_n 3, 1, .null), (.iconst 0, 1, .int 0), (.istore 4, 2, .null)] (pc' := 5) (L' := [some (.ref a), some (.int p), some (.int q), some (.int 0), some (.int 0)]) (st' := []) (by decide +kernel) rfl ?_
  exact loop 0 (Nat.zero_le _)
set_option maxHeartbeats 4000000 in
theorem c_X0_sumWitnessedBy (hG : GOk G) (hL : LLc h a d c m w D C M W n) (hn : n ≤ 12) (p : Int32) :
    Ct G yX0_sumWitnessedBy (.code yX0_sumWitnessedBy cX0_sumWitnessedBy 4 (some .int)) 0 0 0 0 [.ref a, .int p] h (is_i (wit M W p n) h) pxN := by
  refine Ct.of (by decide +kernel) (Nat.le_of_ble_eq_true rfl) fun F hF hT hN hRm => ?_
  obtain ⟨hA, hd, hc, hm, hw⟩ := hL
  have loop : ∀ i, i ≤ n → V G F (fin G F (is_i (wit M W p n) h) pxN) 0 0 4 [some (.ref a), some (.int p), some (.int (wit M W p i)), some (.int (nI i))] [] h := by
    refine lp_up n fun i hi ih => ?_
    refine V.run hF [(.iload_n 3, 1, .null), (.aload_n 0, 1, .null)] (pc' := 6) (L' := [some (.ref a), some (.int p), some (.int (wit M W p i)), some (.int (nI i))]) (st' := [.ref a, .int (nI i)]) (by decide +kernel) rfl ?_
    refine V.getf hG hF k_RX0_24 (by decide +kernel) hA rfl ?_
    refine V.icmpN_ge (i := i) (j := n) hF (off := 28) (tgt := 37) (by decide +kernel) (by decide) (by omega) (by omega) (fun c1 => ?_) (fun c1 => ?_)
    · obtain rfl : i = n := by omega
      refine V.run hF [(.iload_n 2, 1, .null)] (pc' := 38) (L' := [some (.ref a), some (.int p), some (.int (wit M W p i)), some (.int (nI i))]) (st' := [.int (wit M W p i)]) (by decide +kernel) rfl ?_
      exact V.reti hF (by decide +kernel) ⟨rfl, rfl⟩
    · skip
      refine V.run hF [(.aload_n 0, 1, .null)] (pc' := 13) (L' := [some (.ref a), some (.int p), some (.int (wit M W p i)), some (.int (nI i))]) (st' := [.ref a]) (by decide +kernel) rfl ?_
      refine V.getf hG hF k_RX0_21 (by decide +kernel) hA rfl ?_
      refine V.run hF [(.iload_n 3, 1, .null)] (pc' := 17) (L' := [some (.ref a), some (.int p), some (.int (wit M W p i)), some (.int (nI i))]) (st' := [.int (nI i), .ref w]) (by decide +kernel) rfl ?_
      refine V.ialdN (j := i) hG hF (by decide +kernel) hw (by omega) (by decide) ?_
      refine V.run hF [(.iload_n 1, 1, .null)] (pc' := 19) (L' := [some (.ref a), some (.int p), some (.int (wit M W p i)), some (.int (nI i))]) (st' := [.int p, .int (W i)]) (by decide +kernel) rfl ?_
      refine V.icmp_ne hF (off := 12) (tgt := 31) (by decide +kernel) (by decide) (fun c2 => ?_) (fun c2 => ?_)
      · skip
        refine V.run hF [(.iinc 3 1, 3, .int 1), (.goto (-30), 3, .null)] (pc' := 4) (L' := [some (.ref a), some (.int p), some (.int (wit M W p i)), some (.int ((nI i) + 1))]) (st' := []) (by decide +kernel) rfl ?_
        rw [nI_1 i]
        rw [show wit M W p i = wit M W p (i + 1) by simp [wit, c2]]
        exact ih c1
      · skip
        refine V.run hF [(.iload_n 2, 1, .null), (.aload_n 0, 1, .null)] (pc' := 24) (L' := [some (.ref a), some (.int p), some (.int (wit M W p i)), some (.int (nI i))]) (st' := [.ref a, .int (wit M W p i)]) (by decide +kernel) rfl ?_
        refine V.getf hG hF k_RX0_18 (by decide +kernel) hA rfl ?_
        refine V.run hF [(.iload_n 3, 1, .null)] (pc' := 28) (L' := [some (.ref a), some (.int p), some (.int (wit M W p i)), some (.int (nI i))]) (st' := [.int (nI i), .ref m, .int (wit M W p i)]) (by decide +kernel) rfl ?_
        refine V.ialdN (j := i) hG hF (by decide +kernel) hm (by omega) (by decide) ?_
        refine V.run hF [(.iadd, 1, .null), (.istore_n 2, 1, .null), (.iinc 3 1, 3, .int 1), (.goto (-30), 3, .null)] (pc' := 4) (L' := [some (.ref a), some (.int p), some (.int (wit M W p i + M i)), some (.int ((nI i) + 1))]) (st' := []) (by decide +kernel) rfl ?_
        rw [nI_1 i]
        rw [show wit M W p i + M i = wit M W p (i + 1) by simp [wit, c2]]
        exact ih c1
  refine V.run hF [(.iconst 0, 1, .int 0), (.istore_n 2, 1, .null), (.iconst 0, 1, .int 0), (.istore_n 3, 1, .null)] (pc' := 4) (L' := [some (.ref a), some (.int p), some (.int 0), some (.int 0)]) (st' := []) (by decide +kernel) rfl ?_
  exact loop 0 (Nat.zero_le _)
set_option maxHeartbeats 4000000 in
theorem c_X0_creditorBits (hG : GOk G) (hL : LLc h a d c m w D C M W n) (hn : n ≤ 12) (p : Int32) :
    Ct G yX0_creditorBits (.code yX0_creditorBits cX0_creditorBits 4 (some .int)) 0 0 0 0 [.ref a, .int p] h (is_i (cbits D C p n) h) pxN := by
  refine Ct.of (by decide +kernel) (Nat.le_of_ble_eq_true rfl) fun F hF hT hN hRm => ?_
  obtain ⟨hA, hd, hc, hm, hw⟩ := hL
  have loop : ∀ i, i ≤ n → V G F (fin G F (is_i (cbits D C p n) h) pxN) 0 0 4 [some (.ref a), some (.int p), some (.int (cbits D C p i)), some (.int (nI i))] [] h := by
    refine lp_up n fun i hi ih => ?_
    refine V.run hF [(.iload_n 3, 1, .null), (.aload_n 0, 1, .null)] (pc' := 6) (L' := [some (.ref a), some (.int p), some (.int (cbits D C p i)), some (.int (nI i))]) (st' := [.ref a, .int (nI i)]) (by decide +kernel) rfl ?_
    refine V.getf hG hF k_RX0_24 (by decide +kernel) hA rfl ?_
    refine V.icmpN_ge (i := i) (j := n) hF (off := 30) (tgt := 39) (by decide +kernel) (by decide) (by omega) (by omega) (fun c1 => ?_) (fun c1 => ?_)
    · obtain rfl : i = n := by omega
      refine V.run hF [(.iload_n 2, 1, .null)] (pc' := 40) (L' := [some (.ref a), some (.int p), some (.int (cbits D C p i)), some (.int (nI i))]) (st' := [.int (cbits D C p i)]) (by decide +kernel) rfl ?_
      exact V.reti hF (by decide +kernel) ⟨rfl, rfl⟩
    · skip
      refine V.run hF [(.aload_n 0, 1, .null)] (pc' := 13) (L' := [some (.ref a), some (.int p), some (.int (cbits D C p i)), some (.int (nI i))]) (st' := [.ref a]) (by decide +kernel) rfl ?_
      refine V.getf hG hF k_RX0_9 (by decide +kernel) hA rfl ?_
      refine V.run hF [(.iload_n 3, 1, .null)] (pc' := 17) (L' := [some (.ref a), some (.int p), some (.int (cbits D C p i)), some (.int (nI i))]) (st' := [.int (nI i), .ref d]) (by decide +kernel) rfl ?_
      refine V.ialdN (j := i) hG hF (by decide +kernel) hd (by omega) (by decide) ?_
      refine V.run hF [(.iload_n 1, 1, .null)] (pc' := 19) (L' := [some (.ref a), some (.int p), some (.int (cbits D C p i)), some (.int (nI i))]) (st' := [.int p, .int (D i)]) (by decide +kernel) rfl ?_
      refine V.icmp_ne hF (off := 14) (tgt := 33) (by decide +kernel) (by decide) (fun c2 => ?_) (fun c2 => ?_)
      · skip
        refine V.run hF [(.iinc 3 1, 3, .int 1), (.goto (-32), 3, .null)] (pc' := 4) (L' := [some (.ref a), some (.int p), some (.int (cbits D C p i)), some (.int ((nI i) + 1))]) (st' := []) (by decide +kernel) rfl ?_
        rw [nI_1 i]
        rw [show cbits D C p i = cbits D C p (i + 1) by simp [cbits, c2]]
        exact ih c1
      · skip
        refine V.run hF [(.iload_n 2, 1, .null), (.iconst 1, 1, .int 1), (.aload_n 0, 1, .null)] (pc' := 25) (L' := [some (.ref a), some (.int p), some (.int (cbits D C p i)), some (.int (nI i))]) (st' := [.ref a, .int 1, .int (cbits D C p i)]) (by decide +kernel) rfl ?_
        refine V.getf hG hF k_RX0_15 (by decide +kernel) hA rfl ?_
        refine V.run hF [(.iload_n 3, 1, .null)] (pc' := 29) (L' := [some (.ref a), some (.int p), some (.int (cbits D C p i)), some (.int (nI i))]) (st' := [.int (nI i), .ref c, .int 1, .int (cbits D C p i)]) (by decide +kernel) rfl ?_
        refine V.ialdN (j := i) hG hF (by decide +kernel) hc (by omega) (by decide) ?_
        refine V.run hF [(.ishl, 1, .null), (.ior, 1, .null), (.istore_n 2, 1, .null), (.iinc 3 1, 3, .int 1), (.goto (-32), 3, .null)] (pc' := 4) (L' := [some (.ref a), some (.int p), some (.int (cbits D C p i ||| (1 <<< ((C i) &&& 31)))), some (.int ((nI i) + 1))]) (st' := []) (by decide +kernel) rfl ?_
        rw [nI_1 i]
        rw [show cbits D C p i ||| 1 <<< (C i &&& 31) = cbits D C p (i + 1) by simp [cbits, c2]]
        exact ih c1
  refine V.run hF [(.iconst 0, 1, .int 0), (.istore_n 2, 1, .null), (.iconst 0, 1, .int 0), (.istore_n 3, 1, .null)] (pc' := 4) (L' := [some (.ref a), some (.int p), some (.int 0), some (.int 0)]) (st' := []) (by decide +kernel) rfl ?_
  exact loop 0 (Nat.zero_le _)
end LLs
