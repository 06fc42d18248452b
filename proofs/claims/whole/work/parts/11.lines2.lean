/-! ===== LineList: its writes ===== -/
def kp5 (h h' : Hp) (a d c m w : Nat) : Prop := ∀ q : Nat, q ≠ a → q ≠ d → q ≠ c → q ≠ m → q ≠ w → h' q = h q
theorem kp5.rf {h : Hp} {a d c m w : Nat} : kp5 h h a d c m w := fun _ _ _ _ _ _ => rfl
theorem kp5.tr {h h1 h2 : Hp} {a d c m w : Nat} (p : kp5 h h1 a d c m w) (q : kp5 h1 h2 a d c m w) : kp5 h h2 a d c m w := fun x e1 e2 e3 e4 e5 => (q x e1 e2 e3 e4 e5).trans (p x e1 e2 e3 e4 e5)
abbrev is_v (P : Hp → Prop) : Option Value → Hp → Prop := fun v h' => v = none ∧ P h'
section LLw
variable {G : Gt} {h : Hp} {a d c m w n : Nat} {D C M W : Nat → Int32}
set_option maxHeartbeats 4000000 in
theorem c_X0_append (hG : GOk G) (hL : LLc h a d c m w D C M W n) (hnd : nd4 d c m w) (hn : n < 12) (x0 x1 x2 x3 : Int32) :
    Ct G yX0_append (.code yX0_append cX0_append 6 none) 0 0 0 0 [.ref a, .int x0, .int x1, .int x2, .int x3] h (is_v fun h' => LLc h' a d c m w (upd D n x0) (upd C n x1) (upd M n x2) (upd W n x3) (n + 1) ∧ kp5 h h' a d c m w) pxN := by
  refine Ct.of (by decide +kernel) (Nat.le_of_ble_eq_true rfl) fun F hF hT hN hRm => ?_
  obtain ⟨⟨na1, na2, na3, na4⟩, n1, n2, n3, n4, n5, n6⟩ := hL.nd hnd
  obtain ⟨hA, hd, hc, hm, hw⟩ := hL
  refine V.run hF [(.aload_n 0, 1, .null)] (pc' := 1) (L' := [some (.ref a), some (.int x0), some (.int x1), some (.int x2), some (.int x3), none]) (st' := [.ref a]) (by decide +kernel) rfl ?_
  refine V.getf hG hF k_RX0_24 (by decide +kernel) hA rfl ?_
  refine V.run hF [(.istore 5, 2, .null), (.iload 5, 2, .null)] (pc' := 8) (L' := [some (.ref a), some (.int x0), some (.int x1), some (.int x2), some (.int x3), some (.int (nI n))]) (st' := [.int (nI n)]) (by decide +kernel) rfl ?_
  refine V.if_lt hF (off := 10) (tgt := 18) (by decide +kernel) (by decide) (fun c1 => ?_) (fun c1 => ?_)
  · exact absurd c1 (by have := nI_pos (n := n) (by omega); exact this)
  · skip
    refine V.run hF [(.iload 5, 2, .null), (.bipush 12, 2, .int (nI 12))] (pc' := 15) (L' := [some (.ref a), some (.int x0), some (.int x1), some (.int x2), some (.int x3), some (.int (nI n))]) (st' := [.int (nI 12), .int (nI n)]) (by decide +kernel) rfl ?_
    refine V.icmpN_lt (i := n) (j := 12) hF (off := 4) (tgt := 19) (by decide +kernel) (by decide) (by omega) (by omega) (fun c2 => ?_) (fun c2 => ?_)
    · skip
      refine V.run hF [(.aload_n 0, 1, .null)] (pc' := 20) (L' := [some (.ref a), some (.int x0), some (.int x1), some (.int x2), some (.int x3), some (.int (nI n))]) (st' := [.ref a]) (by decide +kernel) rfl ?_
      refine V.getf hG hF k_RX0_9 (by decide +kernel) hA rfl ?_
      refine V.run hF [(.iload 5, 2, .null), (.iload_n 1, 1, .null)] (pc' := 26) (L' := [some (.ref a), some (.int x0), some (.int x1), some (.int x2), some (.int x3), some (.int (nI n))]) (st' := [.int x0, .int (nI n), .ref d]) (by decide +kernel) rfl ?_
      refine V.iastN (j := n) hG hF (by decide +kernel) hd (by omega) (by decide) ?_
      obtain ⟨h_1, hh1⟩ : ∃ z : Hp, z = hset h d (.inl (0, 12, .inl (upd D n x0))) := ⟨_, rfl⟩
      refine V.hp hh1 ?_
      have hk1 : ∀ q : Nat, q ≠ d → h_1 q = h q := fun q hq => by rw [hh1]; exact hset_ne hq
      have hs1 : h_1 d = some (.inl (0, 12, .inl (upd D n x0))) := by rw [hh1]; exact hset_eq
      refine V.run hF [(.aload_n 0, 1, .null)] (pc' := 28) (L' := [some (.ref a), some (.int x0), some (.int x1), some (.int x2), some (.int x3), some (.int (nI n))]) (st' := [.ref a]) (by decide +kernel) rfl ?_
      have hf2 : h_1 a = some (.inr (0, [.ref d, .ref c, .ref m, .ref w, .int (nI n)])) := (hk1 a (by first | assumption | exact Ne.symm (by assumption) | omega)).trans hA
      refine V.getf hG hF k_RX0_15 (by decide +kernel) hf2 rfl ?_
      refine V.run hF [(.iload 5, 2, .null), (.iload_n 2, 1, .null)] (pc' := 34) (L' := [some (.ref a), some (.int x0), some (.int x1), some (.int x2), some (.int x3), some (.int (nI n))]) (st' := [.int x1, .int (nI n), .ref c]) (by decide +kernel) rfl ?_
      have hf3 : h_1 c = some (.inl (0, 12, .inl C)) := (hk1 c (by first | assumption | exact Ne.symm (by assumption) | omega)).trans hc
      refine V.iastN (j := n) hG hF (by decide +kernel) hf3 (by omega) (by decide) ?_
      obtain ⟨h_4, hh4⟩ : ∃ z : Hp, z = hset h_1 c (.inl (0, 12, .inl (upd C n x1))) := ⟨_, rfl⟩
      refine V.hp hh4 ?_
      have hk4 : ∀ q : Nat, q ≠ c → h_4 q = h_1 q := fun q hq => by rw [hh4]; exact hset_ne hq
      have hs4 : h_4 c = some (.inl (0, 12, .inl (upd C n x1))) := by rw [hh4]; exact hset_eq
      refine V.run hF [(.aload_n 0, 1, .null)] (pc' := 36) (L' := [some (.ref a), some (.int x0), some (.int x1), some (.int x2), some (.int x3), some (.int (nI n))]) (st' := [.ref a]) (by decide +kernel) rfl ?_
      have hf5 : h_4 a = some (.inr (0, [.ref d, .ref c, .ref m, .ref w, .int (nI n)])) := (hk4 a (by first | assumption | exact Ne.symm (by assumption) | omega)).trans hf2
      refine V.getf hG hF k_RX0_18 (by decide +kernel) hf5 rfl ?_
      refine V.run hF [(.iload 5, 2, .null), (.iload_n 3, 1, .null)] (pc' := 42) (L' := [some (.ref a), some (.int x0), some (.int x1), some (.int x2), some (.int x3), some (.int (nI n))]) (st' := [.int x2, .int (nI n), .ref m]) (by decide +kernel) rfl ?_
      have hf6 : h_4 m = some (.inl (0, 12, .inl M)) := (hk4 m (by first | assumption | exact Ne.symm (by assumption) | omega)).trans ((hk1 m (by first | assumption | exact Ne.symm (by assumption) | omega)).trans hm)
      refine V.iastN (j := n) hG hF (by decide +kernel) hf6 (by omega) (by decide) ?_
      obtain ⟨h_7, hh7⟩ : ∃ z : Hp, z = hset h_4 m (.inl (0, 12, .inl (upd M n x2))) := ⟨_, rfl⟩
      refine V.hp hh7 ?_
      have hk7 : ∀ q : Nat, q ≠ m → h_7 q = h_4 q := fun q hq => by rw [hh7]; exact hset_ne hq
      have hs7 : h_7 m = some (.inl (0, 12, .inl (upd M n x2))) := by rw [hh7]; exact hset_eq
      refine V.run hF [(.aload_n 0, 1, .null)] (pc' := 44) (L' := [some (.ref a), some (.int x0), some (.int x1), some (.int x2), some (.int x3), some (.int (nI n))]) (st' := [.ref a]) (by decide +kernel) rfl ?_
      have hf8 : h_7 a = some (.inr (0, [.ref d, .ref c, .ref m, .ref w, .int (nI n)])) := (hk7 a (by first | assumption | exact Ne.symm (by assumption) | omega)).trans hf5
      refine V.getf hG hF k_RX0_21 (by decide +kernel) hf8 rfl ?_
      refine V.run hF [(.iload 5, 2, .null), (.iload 4, 2, .null)] (pc' := 51) (L' := [some (.ref a), some (.int x0), some (.int x1), some (.int x2), some (.int x3), some (.int (nI n))]) (st' := [.int x3, .int (nI n), .ref w]) (by decide +kernel) rfl ?_
      have hf9 : h_7 w = some (.inl (0, 12, .inl W)) := (hk7 w (by first | assumption | exact Ne.symm (by assumption) | omega)).trans ((hk4 w (by first | assumption | exact Ne.symm (by assumption) | omega)).trans ((hk1 w (by first | assumption | exact Ne.symm (by assumption) | omega)).trans hw))
      refine V.iastN (j := n) hG hF (by decide +kernel) hf9 (by omega) (by decide) ?_
      obtain ⟨h_10, hh10⟩ : ∃ z : Hp, z = hset h_7 w (.inl (0, 12, .inl (upd W n x3))) := ⟨_, rfl⟩
      refine V.hp hh10 ?_
      have hk10 : ∀ q : Nat, q ≠ w → h_10 q = h_7 q := fun q hq => by rw [hh10]; exact hset_ne hq
      have hs10 : h_10 w = some (.inl (0, 12, .inl (upd W n x3))) := by rw [hh10]; exact hset_eq
      refine V.run hF [(.aload_n 0, 1, .null), (.iload 5, 2, .null), (.iconst 1, 1, .int 1), (.iadd, 1, .null)] (pc' := 57) (L' := [some (.ref a), some (.int x0), some (.int x1), some (.int x2), some (.int x3), some (.int (nI n))]) (st' := [.int (nI n + 1), .ref a]) (by decide +kernel) rfl ?_
      rw [nI_1 n]
      have hf11 : h_10 a = some (.inr (0, [.ref d, .ref c, .ref m, .ref w, .int (nI n)])) := (hk10 a (by first | assumption | exact Ne.symm (by assumption) | omega)).trans hf8
      refine V.putf hG hF k_RX0_24 (by decide +kernel) hf11 (fun C T N hc => by cases hc; exact ⟨rfl, .int, by decide +kernel, rfl, rfl⟩) (Nat.le_of_ble_eq_true rfl) ?_
      obtain ⟨h_12, hh12⟩ : ∃ z : Hp, z = hset h_10 a (.inr (0, [.ref d, .ref c, .ref m, .ref w, .int (nI (n + 1))])) := ⟨_, rfl⟩
      refine V.hp hh12 ?_
      have hk12 : ∀ q : Nat, q ≠ a → h_12 q = h_10 q := fun q hq => by rw [hh12]; exact hset_ne hq
      have hs12 : h_12 a = some (.inr (0, [.ref d, .ref c, .ref m, .ref w, .int (nI (n + 1))])) := by rw [hh12]; exact hset_eq
      have hf13 : h_12 d = some (.inl (0, 12, .inl (upd D n x0))) := (hk12 d (by first | assumption | exact Ne.symm (by assumption) | omega)).trans ((hk10 d (by first | assumption | exact Ne.symm (by assumption) | omega)).trans ((hk7 d (by first | assumption | exact Ne.symm (by assumption) | omega)).trans ((hk4 d (by first | assumption | exact Ne.symm (by assumption) | omega)).trans hs1)))
      have fd := hf13
      have hf14 : h_12 c = some (.inl (0, 12, .inl (upd C n x1))) := (hk12 c (by first | assumption | exact Ne.symm (by assumption) | omega)).trans ((hk10 c (by first | assumption | exact Ne.symm (by assumption) | omega)).trans ((hk7 c (by first | assumption | exact Ne.symm (by assumption) | omega)).trans hs4))
      have fc := hf14
      have hf15 : h_12 m = some (.inl (0, 12, .inl (upd M n x2))) := (hk12 m (by first | assumption | exact Ne.symm (by assumption) | omega)).trans ((hk10 m (by first | assumption | exact Ne.symm (by assumption) | omega)).trans hs7)
      have fm := hf15
      have hf16 : h_12 w = some (.inl (0, 12, .inl (upd W n x3))) := (hk12 w (by first | assumption | exact Ne.symm (by assumption) | omega)).trans hs10
      have fw := hf16
      exact V.retv hF (by decide +kernel) ⟨rfl, ⟨hs12, fd, fc, fm, fw⟩, fun q e1 e2 e3 e4 e5 => (hk12 q e1).trans ((hk10 q e5).trans ((hk7 q e4).trans ((hk4 q e3).trans ((hk1 q e2)))))⟩
    · skip
      omega
/-- the first k rows behind i moved up by one -/
def shk (i k : Nat) (f : Nat → Int32) : Nat → Int32 := fun j => if i ≤ j ∧ j < i + k then f (j + 1) else f j
theorem shk_0 {i : Nat} {f : Nat → Int32} : shk i 0 f = f := by
  funext j
  unfold shk
  rw [if_neg (by omega)]
theorem shk_s {i k : Nat} {f : Nat → Int32} : upd (shk i k f) (i + k) (f (i + k + 1)) = shk i (k + 1) f := by
  funext j
  unfold upd shk
  by_cases h : j = i + k
  · subst h
    rw [if_pos rfl, if_pos (by omega)]
  · rw [if_neg h]
    by_cases h2 : i ≤ j ∧ j < i + k
    · rw [if_pos h2, if_pos (by omega)]
    · rw [if_neg h2, if_neg (by omega)]
theorem shk_n {i k j : Nat} {f : Nat → Int32} (h : i + k ≤ j) : shk i k f j = f j := by
  unfold shk
  rw [if_neg (by omega)]
set_option maxHeartbeats 4000000 in
theorem c_X0_takeOut (hG : GOk G) (hL : LLc h a d c m w D C M W n) (hnd : nd4 d c m w) (hn : n ≤ 12) {i : Nat} (hi : i < n) :
    Ct G yX0_takeOut (.code yX0_takeOut cX0_takeOut 4 none) 1 25 0 0 [.ref a, .int (nI i)] h (is_v fun h' => LLc h' a d c m w (shk i (n - 1 - i) D) (shk i (n - 1 - i) C) (shk i (n - 1 - i) M) (shk i (n - 1 - i) W) (n - 1) ∧ kp5 h h' a d c m w) pxN := by
  refine Ct.of (by decide +kernel) (Nat.le_of_ble_eq_true rfl) fun F hF hT hN hRm => ?_
  obtain ⟨⟨na1, na2, na3, na4⟩, n1, n2, n3, n4, n5, n6⟩ := hL.nd hnd
  obtain ⟨hA, hd, hc, hm, hw⟩ := hL
  have loop : ∀ k, k ≤ n - 1 - i → ∀ h1 : Hp, LLc h1 a d c m w (shk i k D) (shk i k C) (shk i k M) (shk i k W) (i + k) → kp5 h h1 a d c m w → V G F (fin G F (is_v fun h' => LLc h' a d c m w (shk i (n - 1 - i) D) (shk i (n - 1 - i) C) (shk i (n - 1 - i) M) (shk i (n - 1 - i) W) (n - 1) ∧ kp5 h h' a d c m w) pxN) 0 0 14 [some (.ref a), some (.int (nI i)), some (.int (nI n)), some (.int (nI (i + 1 + k)))] [] h1 := by
    refine lp_up _ fun k hk ih => ?_
    intro h1 hL1 hkp
    obtain ⟨gA, gd, gc, gm, gw⟩ := id hL1
    refine V.run hF [(.iload_n 3, 1, .null), (.iload_n 2, 1, .null)] (pc' := 16) (L' := [some (.ref a), some (.int (nI i)), some (.int (nI n)), some (.int (nI (i + 1 + k)))]) (st' := [.int (nI n), .int (nI (i + 1 + k))]) (by decide +kernel) rfl ?_
    refine V.icmpN_ge (i := i + 1 + k) (j := n) hF (off := 37) (tgt := 53) (by decide +kernel) (by decide) (by omega) (by omega) (fun c1 => ?_) (fun c1 => ?_)
    · obtain rfl : k = n - 1 - i := by omega
      rw [show i + (n - 1 - i) = n - 1 by omega] at hL1
      exact V.retv hF (by decide +kernel) ⟨rfl, hL1, hkp⟩
    · skip
      refine V.run hF [(.aload_n 0, 1, .null), (.aload_n 0, 1, .null)] (pc' := 21) (L' := [some (.ref a), some (.int (nI i)), some (.int (nI n)), some (.int (nI (i + 1 + k)))]) (st' := [.ref a, .ref a]) (by decide +kernel) rfl ?_
      refine V.getf hG hF k_RX0_9 (by decide +kernel) gA rfl ?_
      refine V.run hF [(.iload_n 3, 1, .null)] (pc' := 25) (L' := [some (.ref a), some (.int (nI i)), some (.int (nI n)), some (.int (nI (i + 1 + k)))]) (st' := [.int (nI (i + 1 + k)), .ref d, .ref a]) (by decide +kernel) rfl ?_
      refine V.ialdN (j := i + 1 + k) hG hF (by decide +kernel) gd (by omega) (by decide) ?_
      refine V.run hF [(.aload_n 0, 1, .null)] (pc' := 27) (L' := [some (.ref a), some (.int (nI i)), some (.int (nI n)), some (.int (nI (i + 1 + k)))]) (st' := [.ref a, .int ((shk i k D) (i + 1 + k)), .ref a]) (by decide +kernel) rfl ?_
      refine V.getf hG hF k_RX0_15 (by decide +kernel) gA rfl ?_
      refine V.run hF [(.iload_n 3, 1, .null)] (pc' := 31) (L' := [some (.ref a), some (.int (nI i)), some (.int (nI n)), some (.int (nI (i + 1 + k)))]) (st' := [.int (nI (i + 1 + k)), .ref c, .int ((shk i k D) (i + 1 + k)), .ref a]) (by decide +kernel) rfl ?_
      refine V.ialdN (j := i + 1 + k) hG hF (by decide +kernel) gc (by omega) (by decide) ?_
      refine V.run hF [(.aload_n 0, 1, .null)] (pc' := 33) (L' := [some (.ref a), some (.int (nI i)), some (.int (nI n)), some (.int (nI (i + 1 + k)))]) (st' := [.ref a, .int ((shk i k C) (i + 1 + k)), .int ((shk i k D) (i + 1 + k)), .ref a]) (by decide +kernel) rfl ?_
      refine V.getf hG hF k_RX0_18 (by decide +kernel) gA rfl ?_
      refine V.run hF [(.iload_n 3, 1, .null)] (pc' := 37) (L' := [some (.ref a), some (.int (nI i)), some (.int (nI n)), some (.int (nI (i + 1 + k)))]) (st' := [.int (nI (i + 1 + k)), .ref m, .int ((shk i k C) (i + 1 + k)), .int ((shk i k D) (i + 1 + k)), .ref a]) (by decide +kernel) rfl ?_
      refine V.ialdN (j := i + 1 + k) hG hF (by decide +kernel) gm (by omega) (by decide) ?_
      refine V.run hF [(.aload_n 0, 1, .null)] (pc' := 39) (L' := [some (.ref a), some (.int (nI i)), some (.int (nI n)), some (.int (nI (i + 1 + k)))]) (st' := [.ref a, .int ((shk i k M) (i + 1 + k)), .int ((shk i k C) (i + 1 + k)), .int ((shk i k D) (i + 1 + k)), .ref a]) (by decide +kernel) rfl ?_
      refine V.getf hG hF k_RX0_21 (by decide +kernel) gA rfl ?_
      refine V.run hF [(.iload_n 3, 1, .null)] (pc' := 43) (L' := [some (.ref a), some (.int (nI i)), some (.int (nI n)), some (.int (nI (i + 1 + k)))]) (st' := [.int (nI (i + 1 + k)), .ref w, .int ((shk i k M) (i + 1 + k)), .int ((shk i k C) (i + 1 + k)), .int ((shk i k D) (i + 1 + k)), .ref a]) (by decide +kernel) rfl ?_
      refine V.ialdN (j := i + 1 + k) hG hF (by decide +kernel) gw (by omega) (by decide) ?_
      refine V.callV (As := [.int ((shk i k D) (i + 1 + k)), .int ((shk i k C) (i + 1 + k)), .int ((shk i k M) (i + 1 + k)), .int ((shk i k W) (i + 1 + k))]) (st := []) hG hF k_RX0_28 (by decide +kernel) (c_X0_append hG hL1 hnd (by omega) _ _ _ _) gA rfl rfl ⟨by rw [hRm]; decide, by rw [hRm]; decide⟩ (by decide) rfl (fun v h_1 hp1 => ?_) (fun E h9 hx => hx.elim)
      obtain ⟨rfl, hL2, hk2⟩ := hp1
      show V G F _ _ _ 47 [some (.ref a), some (.int (nI i)), some (.int (nI n)), some (.int (nI (i + 1 + k)))] [] h_1
      refine V.run hF [(.iinc 3 1, 3, .int 1), (.goto (-36), 3, .null)] (pc' := 14) (L' := [some (.ref a), some (.int (nI i)), some (.int (nI n)), some (.int ((nI (i + 1 + k)) + 1))]) (st' := []) (by decide +kernel) rfl ?_
      rw [nI_1 (i + 1 + k)]
      rw [shk_n (by omega), shk_n (by omega), shk_n (by omega), shk_n (by omega), show i + 1 + k = i + k + 1 by omega, shk_s, shk_s, shk_s, shk_s] at hL2
      exact ih (by omega) _ hL2 (hkp.tr hk2)
  refine V.run hF [(.aload_n 0, 1, .null)] (pc' := 1) (L' := [some (.ref a), some (.int (nI i)), none, none]) (st' := [.ref a]) (by decide +kernel) rfl ?_
  refine V.getf hG hF k_RX0_24 (by decide +kernel) hA rfl ?_
  refine V.run hF [(.istore_n 2, 1, .null), (.aload_n 0, 1, .null), (.iload_n 1, 1, .null)] (pc' := 7) (L' := [some (.ref a), some (.int (nI i)), some (.int (nI n)), none]) (st' := [.int (nI i), .ref a]) (by decide +kernel) rfl ?_
  refine V.putf hG hF k_RX0_24 (by decide +kernel) hA (fun C T N hc => by cases hc; exact ⟨rfl, .int, by decide +kernel, rfl, rfl⟩) (Nat.le_of_ble_eq_true rfl) ?_
  obtain ⟨h_2, hh2⟩ : ∃ z : Hp, z = hset h a (.inr (0, [.ref d, .ref c, .ref m, .ref w, .int (nI i)])) := ⟨_, rfl⟩
  refine V.hp hh2 ?_
  have hk2 : ∀ q : Nat, q ≠ a → h_2 q = h q := fun q hq => by rw [hh2]; exact hset_ne hq
  have hs2 : h_2 a = some (.inr (0, [.ref d, .ref c, .ref m, .ref w, .int (nI i)])) := by rw [hh2]; exact hset_eq
  refine V.run hF [(.iload_n 1, 1, .null), (.iconst 1, 1, .int 1), (.iadd, 1, .null), (.istore_n 3, 1, .null)] (pc' := 14) (L' := [some (.ref a), some (.int (nI i)), some (.int (nI n)), some (.int (nI i + 1))]) (st' := []) (by decide +kernel) rfl ?_
  rw [nI_1 i]
  refine loop 0 (Nat.zero_le _) _ ?_ (fun q e1 _ _ _ _ => hk2 q e1)
  rw [shk_0, shk_0, shk_0, shk_0]
  exact ⟨hs2, (hk2 _ (Ne.symm na1)).trans hd, (hk2 _ (Ne.symm na2)).trans hc, (hk2 _ (Ne.symm na3)).trans hm, (hk2 _ (Ne.symm na4)).trans hw⟩
/-- the first k rows of g, then f's -/
def mxk (k : Nat) (g f : Nat → Int32) : Nat → Int32 := fun j => if j < k then g j else f j
theorem mxk_0 {g f : Nat → Int32} : mxk 0 g f = f := by
  funext j
  unfold mxk
  rw [if_neg (by omega)]
theorem mxk_s {k : Nat} {g f : Nat → Int32} : upd (mxk k g f) k (g k) = mxk (k + 1) g f := by
  funext j
  unfold upd mxk
  by_cases h : j = k
  · subst h
    rw [if_pos rfl, if_pos (by omega)]
  · rw [if_neg h]
    by_cases h2 : j < k
    · rw [if_pos h2, if_pos (by omega)]
    · rw [if_neg h2, if_neg (by omega)]
def dj5 (b e f g k a d c m w : Nat) : Prop := ∀ x ∈ [b, e, f, g, k], ∀ y ∈ [a, d, c, m, w], x ≠ y
theorem kp5.LL {h h' : Hp} {a d c m w b e f g k n : Nat} {D C M W : Nat → Int32} (hk : kp5 h h' a d c m w) (hj : dj5 b e f g k a d c m w) (hL : LLc h b e f g k D C M W n) : LLc h' b e f g k D C M W n := by
  obtain ⟨h1, h2, h3, h4, h5⟩ := hL
  refine ⟨(hk b ?_ ?_ ?_ ?_ ?_).trans h1, (hk e ?_ ?_ ?_ ?_ ?_).trans h2, (hk f ?_ ?_ ?_ ?_ ?_).trans h3, (hk g ?_ ?_ ?_ ?_ ?_).trans h4, (hk k ?_ ?_ ?_ ?_ ?_).trans h5⟩ <;> exact hj _ (by simp) _ (by simp)
set_option maxHeartbeats 4000000 in
theorem c_X0_become (hG : GOk G) (hL : LLc h a d c m w D C M W n) (hnd : nd4 d c m w) {b e f g k n2 : Nat} {D2 C2 M2 W2 : Nat → Int32} (hB : LLc h b e f g k D2 C2 M2 W2 n2) (hj : dj5 b e f g k a d c m w) (hn : n2 ≤ 12) :
    Ct G yX0_become (.code yX0_become cX0_become 3 none) 1 25 0 0 [.ref a, .ref b] h (is_v fun h' => LLc h' a d c m w (mxk n2 D2 D) (mxk n2 C2 C) (mxk n2 M2 M) (mxk n2 W2 W) n2 ∧ kp5 h h' a d c m w) pxN := by
  refine Ct.of (by decide +kernel) (Nat.le_of_ble_eq_true rfl) fun F hF hT hN hRm => ?_
  obtain ⟨⟨na1, na2, na3, na4⟩, n1, n2', n3, n4, n5, n6⟩ := hL.nd hnd
  obtain ⟨hA, hd, hc, hm, hw⟩ := hL
  have loop : ∀ i, i ≤ n2 → ∀ h1 : Hp, LLc h1 a d c m w (mxk i D2 D) (mxk i C2 C) (mxk i M2 M) (mxk i W2 W) i → kp5 h h1 a d c m w → V G F (fin G F (is_v fun h' => LLc h' a d c m w (mxk n2 D2 D) (mxk n2 C2 C) (mxk n2 M2 M) (mxk n2 W2 W) n2 ∧ kp5 h h' a d c m w) pxN) 0 0 7 [some (.ref a), some (.ref b), some (.int (nI i))] [] h1 := by
    refine lp_up _ fun i hi ih => ?_
    intro h1 hL1 hkp
    obtain ⟨gb, ge, gf, gg, gk⟩ := hkp.LL hj hB
    obtain ⟨gA, gd, gc, gm, gw⟩ := id hL1
    refine V.run hF [(.iload_n 2, 1, .null), (.aload_n 1, 1, .null)] (pc' := 9) (L' := [some (.ref a), some (.ref b), some (.int (nI i))]) (st' := [.ref b, .int (nI i)]) (by decide +kernel) rfl ?_
    refine V.getf hG hF k_RX0_24 (by decide +kernel) gb rfl ?_
    refine V.icmpN_ge (i := i) (j := n2) hF (off := 37) (tgt := 49) (by decide +kernel) (by decide) (by omega) (by omega) (fun c1 => ?_) (fun c1 => ?_)
    · obtain rfl : i = n2 := by omega
      exact V.retv hF (by decide +kernel) ⟨rfl, hL1, hkp⟩
    · skip
      refine V.run hF [(.aload_n 0, 1, .null), (.aload_n 1, 1, .null)] (pc' := 17) (L' := [some (.ref a), some (.ref b), some (.int (nI i))]) (st' := [.ref b, .ref a]) (by decide +kernel) rfl ?_
      refine V.getf hG hF k_RX0_9 (by decide +kernel) gb rfl ?_
      refine V.run hF [(.iload_n 2, 1, .null)] (pc' := 21) (L' := [some (.ref a), some (.ref b), some (.int (nI i))]) (st' := [.int (nI i), .ref e, .ref a]) (by decide +kernel) rfl ?_
      refine V.ialdN (j := i) hG hF (by decide +kernel) ge (by omega) (by decide) ?_
      refine V.run hF [(.aload_n 1, 1, .null)] (pc' := 23) (L' := [some (.ref a), some (.ref b), some (.int (nI i))]) (st' := [.ref b, .int (D2 i), .ref a]) (by decide +kernel) rfl ?_
      refine V.getf hG hF k_RX0_15 (by decide +kernel) gb rfl ?_
      refine V.run hF [(.iload_n 2, 1, .null)] (pc' := 27) (L' := [some (.ref a), some (.ref b), some (.int (nI i))]) (st' := [.int (nI i), .ref f, .int (D2 i), .ref a]) (by decide +kernel) rfl ?_
      refine V.ialdN (j := i) hG hF (by decide +kernel) gf (by omega) (by decide) ?_
      refine V.run hF [(.aload_n 1, 1, .null)] (pc' := 29) (L' := [some (.ref a), some (.ref b), some (.int (nI i))]) (st' := [.ref b, .int (C2 i), .int (D2 i), .ref a]) (by decide +kernel) rfl ?_
      refine V.getf hG hF k_RX0_18 (by decide +kernel) gb rfl ?_
      refine V.run hF [(.iload_n 2, 1, .null)] (pc' := 33) (L' := [some (.ref a), some (.ref b), some (.int (nI i))]) (st' := [.int (nI i), .ref g, .int (C2 i), .int (D2 i), .ref a]) (by decide +kernel) rfl ?_
      refine V.ialdN (j := i) hG hF (by decide +kernel) gg (by omega) (by decide) ?_
      refine V.run hF [(.aload_n 1, 1, .null)] (pc' := 35) (L' := [some (.ref a), some (.ref b), some (.int (nI i))]) (st' := [.ref b, .int (M2 i), .int (C2 i), .int (D2 i), .ref a]) (by decide +kernel) rfl ?_
      refine V.getf hG hF k_RX0_21 (by decide +kernel) gb rfl ?_
      refine V.run hF [(.iload_n 2, 1, .null)] (pc' := 39) (L' := [some (.ref a), some (.ref b), some (.int (nI i))]) (st' := [.int (nI i), .ref k, .int (M2 i), .int (C2 i), .int (D2 i), .ref a]) (by decide +kernel) rfl ?_
      refine V.ialdN (j := i) hG hF (by decide +kernel) gk (by omega) (by decide) ?_
      refine V.callV (As := [.int (D2 i), .int (C2 i), .int (M2 i), .int (W2 i)]) (st := []) hG hF k_RX0_28 (by decide +kernel) (c_X0_append hG hL1 hnd (by omega) _ _ _ _) gA rfl rfl ⟨by rw [hRm]; decide, by rw [hRm]; decide⟩ (by decide) rfl (fun v h_1 hp1 => ?_) (fun E h9 hx => hx.elim)
      obtain ⟨rfl, hL2, hk2⟩ := hp1
      show V G F _ _ _ 43 [some (.ref a), some (.ref b), some (.int (nI i))] [] h_1
      refine V.run hF [(.iinc 2 1, 3, .int 1), (.goto (-39), 3, .null)] (pc' := 7) (L' := [some (.ref a), some (.ref b), some (.int ((nI i) + 1))]) (st' := []) (by decide +kernel) rfl ?_
      rw [nI_1 i]
      rw [mxk_s, mxk_s, mxk_s, mxk_s] at hL2
      exact ih (by omega) _ hL2 (hkp.tr hk2)
  refine V.run hF [(.aload_n 0, 1, .null), (.iconst 0, 1, .int 0)] (pc' := 2) (L' := [some (.ref a), some (.ref b), none]) (st' := [.int 0, .ref a]) (by decide +kernel) rfl ?_
  refine V.putf hG hF k_RX0_24 (by decide +kernel) hA (fun C T N hc => by cases hc; exact ⟨rfl, .int, by decide +kernel, rfl, rfl⟩) (Nat.le_of_ble_eq_true rfl) ?_
  obtain ⟨h_2, hh2⟩ : ∃ z : Hp, z = hset h a (.inr (0, [.ref d, .ref c, .ref m, .ref w, .int 0])) := ⟨_, rfl⟩
  refine V.hp hh2 ?_
  have hk2 : ∀ q : Nat, q ≠ a → h_2 q = h q := fun q hq => by rw [hh2]; exact hset_ne hq
  have hs2 : h_2 a = some (.inr (0, [.ref d, .ref c, .ref m, .ref w, .int 0])) := by rw [hh2]; exact hset_eq
  refine V.run hF [(.iconst 0, 1, .int 0), (.istore_n 2, 1, .null)] (pc' := 7) (L' := [some (.ref a), some (.ref b), some (.int 0)]) (st' := []) (by decide +kernel) rfl ?_
  refine loop 0 (Nat.zero_le _) _ ?_ (fun q e1 _ _ _ _ => hk2 q e1)
  rw [mxk_0, mxk_0, mxk_0, mxk_0]
  exact ⟨hs2, (hk2 _ (Ne.symm na1)).trans hd, (hk2 _ (Ne.symm na2)).trans hc, (hk2 _ (Ne.symm na3)).trans hm, (hk2 _ (Ne.symm na4)).trans hw⟩
set_option maxHeartbeats 4000000 in
theorem c_X0_init (hG : GOk G) (hA : h a = some (.inr (0, [.null, .null, .null, .null, .int 0]))) :
    Ct G yX0_init (.code yX0_init cX0_init 1 none) 1 12 4 48 [.ref a] h (is_v fun h' => ∃ d c m w, LLc h' a d c m w (fun _ => 0) (fun _ => 0) (fun _ => 0) (fun _ => 0) 0 ∧ nd4 d c m w ∧ (h d = none ∧ h c = none ∧ h m = none ∧ h w = none) ∧ kp5 h h' a d c m w) pxN := by
  refine Ct.of (by decide +kernel) (Nat.le_of_ble_eq_true rfl) fun F hF hT hN hRm => ?_
  refine V.run hF [(.aload_n 0, 1, .null)] (pc' := 1) (L' := [some (.ref a)]) (st' := [.ref a]) (by decide +kernel) rfl ?_
  refine V.objInit hG hF tw_36 tw_oi1 tw_oi2 (by decide +kernel) ⟨by rw [hRm]; decide, by rw [hRm]; decide⟩ ?_
  refine V.run hF [(.aload_n 0, 1, .null), (.bipush 12, 2, .int (nI 12))] (pc' := 7) (L' := [some (.ref a)]) (st' := [.int (nI 12), .ref a]) (by decide +kernel) rfl ?_
  refine V.newa (aty := .int) (t := 0) (N := 12) (a0 := (12, .inl (fun _ => 0))) hG hF (by decide) rfl tw_arr_0.1 (by decide +kernel) (by decide) (by decide) (by decide) (fun _ => rfl) (fun d hq_d => ?_)
  have ne_a_d : a ≠ d := ne_new hA hq_d
  obtain ⟨h_1, hh1⟩ : ∃ z : Hp, z = hset h d (.inl (0, 12, .inl (fun _ => 0))) := ⟨_, rfl⟩
  refine V.hp hh1 ?_
  have hk1 : ∀ q : Nat, q ≠ d → h_1 q = h q := fun q hq => by rw [hh1]; exact hset_ne hq
  have hs1 : h_1 d = some (.inl (0, 12, .inl (fun _ => 0))) := by rw [hh1]; exact hset_eq
  have hf2 : h_1 a = some (.inr (0, [.null, .null, .null, .null, .int 0])) := (hk1 a (by first | assumption | exact Ne.symm (by assumption) | omega)).trans hA
  refine V.putF hG hF ko_RX0_9 hN (by decide +kernel) hf2 (fun C T N hc => by cases hc; exact ⟨rfl, rfl, (.array .int), by decide +kernel, rfl, rfl⟩) (Nat.le_of_ble_eq_true rfl) ?_
  obtain ⟨h_3, hh3⟩ : ∃ z : Hp, z = hset h_1 a (.inr (0, [.ref d, .null, .null, .null, .int 0])) := ⟨_, rfl⟩
  refine V.hp hh3 ?_
  have hk3 : ∀ q : Nat, q ≠ a → h_3 q = h_1 q := fun q hq => by rw [hh3]; exact hset_ne hq
  have hs3 : h_3 a = some (.inr (0, [.ref d, .null, .null, .null, .int 0])) := by rw [hh3]; exact hset_eq
  refine V.run hF [(.aload_n 0, 1, .null), (.bipush 12, 2, .int (nI 12))] (pc' := 15) (L' := [some (.ref a)]) (st' := [.int (nI 12), .ref a]) (by decide +kernel) rfl ?_
  have hf4 : h_3 d = some (.inl (0, 12, .inl (fun _ => 0))) := (hk3 d (by first | assumption | exact Ne.symm (by assumption) | omega)).trans hs1
  refine V.newa (aty := .int) (t := 0) (N := 12) (a0 := (12, .inl (fun _ => 0))) hG hF (by decide) rfl tw_arr_0.1 (by decide +kernel) (by decide) (by decide) (by decide) (fun _ => rfl) (fun c hq_c => ?_)
  have ne_a_c : a ≠ c := ne_new hs3 hq_c
  have ne_d_c : d ≠ c := ne_new hf4 hq_c
  obtain ⟨h_5, hh5⟩ : ∃ z : Hp, z = hset h_3 c (.inl (0, 12, .inl (fun _ => 0))) := ⟨_, rfl⟩
  refine V.hp hh5 ?_
  have hk5 : ∀ q : Nat, q ≠ c → h_5 q = h_3 q := fun q hq => by rw [hh5]; exact hset_ne hq
  have hs5 : h_5 c = some (.inl (0, 12, .inl (fun _ => 0))) := by rw [hh5]; exact hset_eq
  have hf6 : h_5 a = some (.inr (0, [.ref d, .null, .null, .null, .int 0])) := (hk5 a (by first | assumption | exact Ne.symm (by assumption) | omega)).trans hs3
  refine V.putF hG hF ko_RX0_15 hN (by decide +kernel) hf6 (fun C T N hc => by cases hc; exact ⟨rfl, rfl, (.array .int), by decide +kernel, rfl, rfl⟩) (Nat.le_of_ble_eq_true rfl) ?_
  obtain ⟨h_7, hh7⟩ : ∃ z : Hp, z = hset h_5 a (.inr (0, [.ref d, .ref c, .null, .null, .int 0])) := ⟨_, rfl⟩
  refine V.hp hh7 ?_
  have hk7 : ∀ q : Nat, q ≠ a → h_7 q = h_5 q := fun q hq => by rw [hh7]; exact hset_ne hq
  have hs7 : h_7 a = some (.inr (0, [.ref d, .ref c, .null, .null, .int 0])) := by rw [hh7]; exact hset_eq
  refine V.run hF [(.aload_n 0, 1, .null), (.bipush 12, 2, .int (nI 12))] (pc' := 23) (L' := [some (.ref a)]) (st' := [.int (nI 12), .ref a]) (by decide +kernel) rfl ?_
  have hf8 : h_7 d = some (.inl (0, 12, .inl (fun _ => 0))) := (hk7 d (by first | assumption | exact Ne.symm (by assumption) | omega)).trans ((hk5 d (by first | assumption | exact Ne.symm (by assumption) | omega)).trans hf4)
  have hf9 : h_7 c = some (.inl (0, 12, .inl (fun _ => 0))) := (hk7 c (by first | assumption | exact Ne.symm (by assumption) | omega)).trans hs5
  refine V.newa (aty := .int) (t := 0) (N := 12) (a0 := (12, .inl (fun _ => 0))) hG hF (by decide) rfl tw_arr_0.1 (by decide +kernel) (by decide) (by decide) (by decide) (fun _ => rfl) (fun m hq_m => ?_)
  have ne_a_m : a ≠ m := ne_new hs7 hq_m
  have ne_d_m : d ≠ m := ne_new hf8 hq_m
  have ne_c_m : c ≠ m := ne_new hf9 hq_m
  obtain ⟨h_10, hh10⟩ : ∃ z : Hp, z = hset h_7 m (.inl (0, 12, .inl (fun _ => 0))) := ⟨_, rfl⟩
  refine V.hp hh10 ?_
  have hk10 : ∀ q : Nat, q ≠ m → h_10 q = h_7 q := fun q hq => by rw [hh10]; exact hset_ne hq
  have hs10 : h_10 m = some (.inl (0, 12, .inl (fun _ => 0))) := by rw [hh10]; exact hset_eq
  have hf11 : h_10 a = some (.inr (0, [.ref d, .ref c, .null, .null, .int 0])) := (hk10 a (by first | assumption | exact Ne.symm (by assumption) | omega)).trans hs7
  refine V.putF hG hF ko_RX0_18 hN (by decide +kernel) hf11 (fun C T N hc => by cases hc; exact ⟨rfl, rfl, (.array .int), by decide +kernel, rfl, rfl⟩) (Nat.le_of_ble_eq_true rfl) ?_
  obtain ⟨h_12, hh12⟩ : ∃ z : Hp, z = hset h_10 a (.inr (0, [.ref d, .ref c, .ref m, .null, .int 0])) := ⟨_, rfl⟩
  refine V.hp hh12 ?_
  have hk12 : ∀ q : Nat, q ≠ a → h_12 q = h_10 q := fun q hq => by rw [hh12]; exact hset_ne hq
  have hs12 : h_12 a = some (.inr (0, [.ref d, .ref c, .ref m, .null, .int 0])) := by rw [hh12]; exact hset_eq
  refine V.run hF [(.aload_n 0, 1, .null), (.bipush 12, 2, .int (nI 12))] (pc' := 31) (L' := [some (.ref a)]) (st' := [.int (nI 12), .ref a]) (by decide +kernel) rfl ?_
  have hf13 : h_12 d = some (.inl (0, 12, .inl (fun _ => 0))) := (hk12 d (by first | assumption | exact Ne.symm (by assumption) | omega)).trans ((hk10 d (by first | assumption | exact Ne.symm (by assumption) | omega)).trans hf8)
  have hf14 : h_12 c = some (.inl (0, 12, .inl (fun _ => 0))) := (hk12 c (by first | assumption | exact Ne.symm (by assumption) | omega)).trans ((hk10 c (by first | assumption | exact Ne.symm (by assumption) | omega)).trans hf9)
  have hf15 : h_12 m = some (.inl (0, 12, .inl (fun _ => 0))) := (hk12 m (by first | assumption | exact Ne.symm (by assumption) | omega)).trans hs10
  refine V.newa (aty := .int) (t := 0) (N := 12) (a0 := (12, .inl (fun _ => 0))) hG hF (by decide) rfl tw_arr_0.1 (by decide +kernel) (by decide) (by decide) (by decide) (fun _ => rfl) (fun w hq_w => ?_)
  have ne_a_w : a ≠ w := ne_new hs12 hq_w
  have ne_d_w : d ≠ w := ne_new hf13 hq_w
  have ne_c_w : c ≠ w := ne_new hf14 hq_w
  have ne_m_w : m ≠ w := ne_new hf15 hq_w
  obtain ⟨h_16, hh16⟩ : ∃ z : Hp, z = hset h_12 w (.inl (0, 12, .inl (fun _ => 0))) := ⟨_, rfl⟩
  refine V.hp hh16 ?_
  have hk16 : ∀ q : Nat, q ≠ w → h_16 q = h_12 q := fun q hq => by rw [hh16]; exact hset_ne hq
  have hs16 : h_16 w = some (.inl (0, 12, .inl (fun _ => 0))) := by rw [hh16]; exact hset_eq
  have hf17 : h_16 a = some (.inr (0, [.ref d, .ref c, .ref m, .null, .int 0])) := (hk16 a (by first | assumption | exact Ne.symm (by assumption) | omega)).trans hs12
  refine V.putF hG hF ko_RX0_21 hN (by decide +kernel) hf17 (fun C T N hc => by cases hc; exact ⟨rfl, rfl, (.array .int), by decide +kernel, rfl, rfl⟩) (Nat.le_of_ble_eq_true rfl) ?_
  obtain ⟨h_18, hh18⟩ : ∃ z : Hp, z = hset h_16 a (.inr (0, [.ref d, .ref c, .ref m, .ref w, .int 0])) := ⟨_, rfl⟩
  refine V.hp hh18 ?_
  have hk18 : ∀ q : Nat, q ≠ a → h_18 q = h_16 q := fun q hq => by rw [hh18]; exact hset_ne hq
  have hs18 : h_18 a = some (.inr (0, [.ref d, .ref c, .ref m, .ref w, .int 0])) := by rw [hh18]; exact hset_eq
  have hf19 : h_18 d = some (.inl (0, 12, .inl (fun _ => 0))) := (hk18 d (by first | assumption | exact Ne.symm (by assumption) | omega)).trans ((hk16 d (by first | assumption | exact Ne.symm (by assumption) | omega)).trans hf13)
  have ed := hf19
  have hf20 : h_18 c = some (.inl (0, 12, .inl (fun _ => 0))) := (hk18 c (by first | assumption | exact Ne.symm (by assumption) | omega)).trans ((hk16 c (by first | assumption | exact Ne.symm (by assumption) | omega)).trans hf14)
  have ec := hf20
  have hf21 : h_18 m = some (.inl (0, 12, .inl (fun _ => 0))) := (hk18 m (by first | assumption | exact Ne.symm (by assumption) | omega)).trans ((hk16 m (by first | assumption | exact Ne.symm (by assumption) | omega)).trans hf15)
  have em := hf21
  have hf22 : h_18 w = some (.inl (0, 12, .inl (fun _ => 0))) := (hk18 w (by first | assumption | exact Ne.symm (by assumption) | omega)).trans hs16
  have ew := hf22
  have hc0 : h c = none := by rw [← hk1 c (Ne.symm ne_d_c), ← hk3 c (Ne.symm ne_a_c)]; exact hq_c
  have hm0 : h m = none := by rw [← hk1 m (Ne.symm ne_d_m), ← hk3 m (Ne.symm ne_a_m), ← hk5 m (Ne.symm ne_c_m), ← hk7 m (Ne.symm ne_a_m)]; exact hq_m
  have hw0 : h w = none := by rw [← hk1 w (Ne.symm ne_d_w), ← hk3 w (Ne.symm ne_a_w), ← hk5 w (Ne.symm ne_c_w), ← hk7 w (Ne.symm ne_a_w), ← hk10 w (Ne.symm ne_m_w), ← hk12 w (Ne.symm ne_a_w)]; exact hq_w
  exact V.retv hF (by decide +kernel) ⟨rfl, d, c, m, w, ⟨hs18, ed, ec, em, ew⟩, ⟨ne_d_c, ne_d_m, ne_d_w, ne_c_m, ne_c_w, ne_m_w⟩, ⟨hq_d, hc0, hm0, hw0⟩, fun q e1 e2 e3 e4 e5 => (hk18 q e1).trans ((hk16 q e5).trans ((hk12 q e1).trans ((hk10 q e4).trans ((hk7 q e1).trans ((hk5 q e3).trans ((hk3 q e1).trans ((hk1 q e2))))))))⟩
end LLw
