/-! ===== LineList: its writes ===== -/
def kp5 (h h' : Hp) (a d c m w : Nat) : Prop := ∀ q : Nat, q ≠ a → q ≠ d → q ≠ c → q ≠ m → q ≠ w → h' q = h q
theorem kp5.rf {h : Hp} {a d c m w : Nat} : kp5 h h a d c m w := fun _ _ _ _ _ _ => rfl
theorem kp5.tr {h h1 h2 : Hp} {a d c m w : Nat} (p : kp5 h h1 a d c m w) (q : kp5 h1 h2 a d c m w) : kp5 h h2 a d c m w := fun x e1 e2 e3 e4 e5 => (q x e1 e2 e3 e4 e5).trans (p x e1 e2 e3 e4 e5)
abbrev is_v (P : Hp → Prop) : Option Value → Hp → Prop := fun v h' => v = none ∧ P h'
section LLw
variable {G : Gt} {h : Hp} {a d c m w n : Nat} {D C M W : Nat → Int32}
set_option maxHeartbeats 4000000 in
theorem c_X0_append (hG : GOk G) (hL : LLc h a d c m w D C M W n) (hnd : nd4 d c m w) (hn : n < 12) (x0 x1 x2 x3 : Int32) :
    Ct G yX0_append (.code yX0_append cX0_append 6 none) 0 0 0 0 [.ref a, .int x0, .int x1, .int x2, .int x3] h (is_v fun h' => LLc h' a d c m w (upd D n x0) (upd C n x1) (upd M n x2) (upd W n x3) (n + 1) ∧ kp5 h h' a d c m w) pxN := by
  refine Ct.of (by decide +kernel) (Nat.le_of_ble_eq_true rfl) fun F hF hT hN hRm => ?_
  obtain ⟨⟨na1, na2, na3, na4⟩, n1, n2, n3, n4, n5, n6⟩ := hL.nd hnd
  obtain ⟨hA, hd, hc, hm, hw⟩ := hL
  refine V.run hF [(.aload_n 0, 1, .null)] (pc' := 1) (L' := [some (.ref a), some (.int x0), some (.int x1), some (.int x2), some (.int x3), none]) (st' := [.ref a]) (by decide +kernel) rfl ?_
  refine V.getf hG hF k_RX0_24 (by decide +kernel) hA rfl ?_
  refine V.run hF [(.istore 5, 2, .null), (.iload 5, 2, .null)] (pc' := 8) (L' := [some (.ref a), some (.int x0), some (.int x1), some (.int x2), some (.int x3), some (.int (nI n))]) (st' := [.int (nI n)]) (by decide +kernel) rfl ?_
  refine V.if_lt hF (off := 10) (tgt := 18) (by decide +kernel) (by decide) (fun c1 => ?_) (fun c1 => ?_)
  · exact absurd c1 (by have := nI_pos (n := n) (by omega); exact this)
  · skip
    refine V.run hF [(.iload 5, 2, .null), (.bipush 12, 2, .int (nI 12))] (pc' := 15) (L' := [some (.ref a), some (.int x0), some (.int x1), some (.int x2), some (.int x3), some (.int (nI n))]) (st' := [.int (nI 12), .int (nI n)]) (by decide +kernel) rfl ?_
    refine V.icmpN_lt (i := n) (j := 12) hF (off := 4) (tgt := 19) (by decide +kernel) (by decide) (by omega) (by omega) (fun c2 => ?_) (fun c2 => ?_)
    · skip
      refine V.run hF [(.aload_n 0, 1, .null)] (pc' := 20) (L' := [some (.ref a), some (.int x0), some (.int x1), some (.int x2), some (.int x3), some (.int (nI n))]) (st' := [.ref a]) (by decide +kernel) rfl ?_
      refine V.getf hG hF k_RX0_9 (by decide +kernel) hA rfl ?_
      refine V.run hF [(.iload 5, 2, .null), (.iload_n 1, 1, .null)] (pc' := 26) (L' := [some (.ref a), some (.int x0), some (.int x1), some (.int x2), some (.int x3), some (.int (nI n))]) (st' := [.int x0, .int (nI n), .ref d]) (by decide +kernel) rfl ?_
      refine V.iastN (j := n) hG hF (by decide +kernel) hd (by omega) (by decide) ?_
      obtain ⟨h_1, gh1⟩ : ∃ z : Hp, z = hset h d (.inl (0, 12, .inl (upd D n x0))) := ⟨_, rfl⟩
      refine V.hp gh1 ?_
      have gk1 : ∀ q : Nat, q ≠ d → h_1 q = h q := fun q hq => by rw [gh1]; exact hset_ne hq
      have gs1 : h_1 d = some (.inl (0, 12, .inl (upd D n x0))) := by rw [gh1]; exact hset_eq
      refine V.run hF [(.aload_n 0, 1, .null)] (pc' := 28) (L' := [some (.ref a), some (.int x0), some (.int x1), some (.int x2), some (.int x3), some (.int (nI n))]) (st' := [.ref a]) (by decide +kernel) rfl ?_
      have gf2 : h_1 a = some (.inr (0, [.ref d, .ref c, .ref m, .ref w, .int (nI n)])) := (gk1 a (by first | assumption | exact Ne.symm (by assumption) | omega)).trans hA
      refine V.getf hG hF k_RX0_15 (by decide +kernel) gf2 rfl ?_
      refine V.run hF [(.iload 5, 2, .null), (.iload_n 2, 1, .null)] (pc' := 34) (L' := [some (.ref a), some (.int x0), some (.int x1), some (.int x2), some (.int x3), some (.int (nI n))]) (st' := [.int x1, .int (nI n), .ref c]) (by decide +kernel) rfl ?_
      have gf3 : h_1 c = some (.inl (0, 12, .inl C)) := (gk1 c (by first | assumption | exact Ne.symm (by assumption) | omega)).trans hc
      refine V.iastN (j := n) hG hF (by decide +kernel) gf3 (by omega) (by decide) ?_
      obtain ⟨h_4, gh4⟩ : ∃ z : Hp, z = hset h_1 c (.inl (0, 12, .inl (upd C n x1))) := ⟨_, rfl⟩
      refine V.hp gh4 ?_
      have gk4 : ∀ q : Nat, q ≠ c → h_4 q = h_1 q := fun q hq => by rw [gh4]; exact hset_ne hq
      have gs4 : h_4 c = some (.inl (0, 12, .inl (upd C n x1))) := by rw [gh4]; exact hset_eq
      refine V.run hF [(.aload_n 0, 1, .null)] (pc' := 36) (L' := [some (.ref a), some (.int x0), some (.int x1), some (.int x2), some (.int x3), some (.int (nI n))]) (st' := [.ref a]) (by decide +kernel) rfl ?_
      have gf5 : h_4 a = some (.inr (0, [.ref d, .ref c, .ref m, .ref w, .int (nI n)])) := (gk4 a (by first | assumption | exact Ne.symm (by assumption) | omega)).trans gf2
      refine V.getf hG hF k_RX0_18 (by decide +kernel) gf5 rfl ?_
      refine V.run hF [(.iload 5, 2, .null), (.iload_n 3, 1, .null)] (pc' := 42) (L' := [some (.ref a), some (.int x0), some (.int x1), some (.int x2), some (.int x3), some (.int (nI n))]) (st' := [.int x2, .int (nI n), .ref m]) (by decide +kernel) rfl ?_
      have gf6 : h_4 m = some (.inl (0, 12, .inl M)) := (gk4 m (by first | assumption | exact Ne.symm (by assumption) | omega)).trans ((gk1 m (by first | assumption | exact Ne.symm (by assumption) | omega)).trans hm)
      refine V.iastN (j := n) hG hF (by decide +kernel) gf6 (by omega) (by decide) ?_
      obtain ⟨h_7, gh7⟩ : ∃ z : Hp, z = hset h_4 m (.inl (0, 12, .inl (upd M n x2))) := ⟨_, rfl⟩
      refine V.hp gh7 ?_
      have gk7 : ∀ q : Nat, q ≠ m → h_7 q = h_4 q := fun q hq => by rw [gh7]; exact hset_ne hq
      have gs7 : h_7 m = some (.inl (0, 12, .inl (upd M n x2))) := by rw [gh7]; exact hset_eq
      refine V.run hF [(.aload_n 0, 1, .null)] (pc' := 44) (L' := [some (.ref a), some (.int x0), some (.int x1), some (.int x2), some (.int x3), some (.int (nI n))]) (st' := [.ref a]) (by decide +kernel) rfl ?_
      have gf8 : h_7 a = some (.inr (0, [.ref d, .ref c, .ref m, .ref w, .int (nI n)])) := (gk7 a (by first | assumption | exact Ne.symm (by assumption) | omega)).trans gf5
      refine V.getf hG hF k_RX0_21 (by decide +kernel) gf8 rfl ?_
      refine V.run hF [(.iload 5, 2, .null), (.iload 4, 2, .null)] (pc' := 51) (L' := [some (.ref a), some (.int x0), some (.int x1), some (.int x2), some (.int x3), some (.int (nI n))]) (st' := [.int x3, .int (nI n), .ref w]) (by decide +kernel) rfl ?_
      have gf9 : h_7 w = some (.inl (0, 12, .inl W)) := (gk7 w (by first | assumption | exact Ne.symm (by assumption) | omega)).trans ((gk4 w (by first | assumption | exact Ne.symm (by assumption) | omega)).trans ((gk1 w (by first | assumption | exact Ne.symm (by assumption) | omega)).trans hw))
      refine V.iastN (j := n) hG hF (by decide +kernel) gf9 (by omega) (by decide) ?_
      obtain ⟨h_10, gh10⟩ : ∃ z : Hp, z = hset h_7 w (.inl (0, 12, .inl (upd W n x3))) := ⟨_, rfl⟩
      refine V.hp gh10 ?_
      have gk10 : ∀ q : Nat, q ≠ w → h_10 q = h_7 q := fun q hq => by rw [gh10]; exact hset_ne hq
      have gs10 : h_10 w = some (.inl (0, 12, .inl (upd W n x3))) := by rw [gh10]; exact hset_eq
      refine V.run hF [(.aload_n 0, 1, .null), (.iload 5, 2, .null), (.iconst 1, 1, .int 1), (.iadd, 1, .null)] (pc' := 57) (L' := [some (.ref a), some (.int x0), some (.int x1), some (.int x2), some (.int x3), some (.int (nI n))]) (st' := [.int (nI n + 1), .ref a]) (by decide +kernel) rfl ?_
      rw [nI_1 n]
      have gf11 : h_10 a = some (.inr (0, [.ref d, .ref c, .ref m, .ref w, .int (nI n)])) := (gk10 a (by first | assumption | exact Ne.symm (by assumption) | omega)).trans gf8
      refine V.putf hG hF k_RX0_24 (by decide +kernel) gf11 (fun C T N hc => by cases hc; exact ⟨rfl, .int, by decide +kernel, rfl, rfl⟩) (Nat.le_of_ble_eq_true rfl) ?_
      obtain ⟨h_12, gh12⟩ : ∃ z : Hp, z = hset h_10 a (.inr (0, [.ref d, .ref c, .ref m, .ref w, .int (nI (n + 1))])) := ⟨_, rfl⟩
      refine V.hp gh12 ?_
      have gk12 : ∀ q : Nat, q ≠ a → h_12 q = h_10 q := fun q hq => by rw [gh12]; exact hset_ne hq
      have gs12 : h_12 a = some (.inr (0, [.ref d, .ref c, .ref m, .ref w, .int (nI (n + 1))])) := by rw [gh12]; exact hset_eq
      have gf13 : h_12 d = some (.inl (0, 12, .inl (upd D n x0))) := (gk12 d (by first | assumption | exact Ne.symm (by assumption) | omega)).trans ((gk10 d (by first | assumption | exact Ne.symm (by assumption) | omega)).trans ((gk7 d (by first | assumption | exact Ne.symm (by assumption) | omega)).trans ((gk4 d (by first | assumption | exact Ne.symm (by assumption) | omega)).trans gs1)))
      have fd := gf13
      have gf14 : h_12 c = some (.inl (0, 12, .inl (upd C n x1))) := (gk12 c (by first | assumption | exact Ne.symm (by assumption) | omega)).trans ((gk10 c (by first | assumption | exact Ne.symm (by assumption) | omega)).trans ((gk7 c (by first | assumption | exact Ne.symm (by assumption) | omega)).trans gs4))
      have fc := gf14
      have gf15 : h_12 m = some (.inl (0, 12, .inl (upd M n x2))) := (gk12 m (by first | assumption | exact Ne.symm (by assumption) | omega)).trans ((gk10 m (by first | assumption | exact Ne.symm (by assumption) | omega)).trans gs7)
      have fm := gf15
      have gf16 : h_12 w = some (.inl (0, 12, .inl (upd W n x3))) := (gk12 w (by first | assumption | exact Ne.symm (by assumption) | omega)).trans gs10
      have fw := gf16
      exact V.retv hF (by decide +kernel) ⟨rfl, ⟨gs12, fd, fc, fm, fw⟩, fun q e1 e2 e3 e4 e5 => ((gk12 q e1).trans ((gk10 q e5).trans ((gk7 q e4).trans ((gk4 q e3).trans ((gk1 q e2))))))⟩
    · skip
      omega
/-- the first k rows behind i moved up by one -/
def shk (i k : Nat) (f : Nat → Int32) : Nat → Int32 := fun j => if i ≤ j ∧ j < i + k then f (j + 1) else f j
theorem shk_0 {i : Nat} {f : Nat → Int32} : shk i 0 f = f := by
  funext j
  unfold shk
  rw [if_neg (by omega)]
theorem shk_s {i k : Nat} {f : Nat → Int32} : upd (shk i k f) (i + k) (f (i + k + 1)) = shk i (k + 1) f := by
  funext j
  unfold upd shk
  by_cases h : j = i + k
  · subst h
    rw [if_pos rfl, if_pos (by omega)]
  · rw [if_neg h]
    by_cases h2 : i ≤ j ∧ j < i + k
    · rw [if_pos h2, if_pos (by omega)]
    · rw [if_neg h2, if_neg (by omega)]
theorem shk_n {i k j : Nat} {f : Nat → Int32} (h : i + k ≤ j) : shk i k f j = f j := by
  unfold shk
  rw [if_neg (by omega)]
set_option maxHeartbeats 4000000 in
theorem c_X0_takeOut (hG : GOk G) (hL : LLc h a d c m w D C M W n) (hnd : nd4 d c m w) (hn : n ≤ 12) {i : Nat} (hi : i < n) :
    Ct G yX0_takeOut (.code yX0_takeOut cX0_takeOut 4 none) 1 25 0 0 [.ref a, .int (nI i)] h (is_v fun h' => LLc h' a d c m w (shk i (n - 1 - i) D) (shk i (n - 1 - i) C) (shk i (n - 1 - i) M) (shk i (n - 1 - i) W) (n - 1) ∧ kp5 h h' a d c m w) pxN := by
  refine Ct.of (by decide +kernel) (Nat.le_of_ble_eq_true rfl) fun F hF hT hN hRm => ?_
  obtain ⟨⟨na1, na2, na3, na4⟩, n1, n2, n3, n4, n5, n6⟩ := hL.nd hnd
  obtain ⟨hA, hd, hc, hm, hw⟩ := hL
  have loop : ∀ k, k ≤ n - 1 - i → ∀ h1 : Hp, LLc h1 a d c m w (shk i k D) (shk i k C) (shk i k M) (shk i k W) (i + k) → kp5 h h1 a d c m w → V G F (fin G F (is_v fun h' => LLc h' a d c m w (shk i (n - 1 - i) D) (shk i (n - 1 - i) C) (shk i (n - 1 - i) M) (shk i (n - 1 - i) W) (n - 1) ∧ kp5 h h' a d c m w) pxN) 0 0 14 [some (.ref a), some (.int (nI i)), some (.int (nI n)), some (.int (nI (i + 1 + k)))] [] h1 := by
    refine lp_up _ fun k hk ih => ?_
    intro h1 hL1 hkp
    obtain ⟨gA, gd, gc, gm, gw⟩ := id hL1
    refine V.run hF [(.iload_n 3, 1, .null), (.iload_n 2, 1, .null)] (pc' := 16) (L' := [some (.ref a), some (.int (nI i)), some (.int (nI n)), some (.int (nI (i + 1 + k)))]) (st' := [.int (nI n), .int (nI (i + 1 + k))]) (by decide +kernel) rfl ?_
    refine V.icmpN_ge (i := i + 1 + k) (j := n) hF (off := 37) (tgt := 53) (by decide +kernel) (by decide) (by omega) (by omega) (fun c1 => ?_) (fun c1 => ?_)
    · obtain rfl : k = n - 1 - i := by omega
      rw [show i + (n - 1 - i) = n - 1 by omega] at hL1
      exact V.retv hF (by decide +kernel) ⟨rfl, hL1, hkp⟩
    · skip
      refine V.run hF [(.aload_n 0, 1, .null), (.aload_n 0, 1, .null)] (pc' := 21) (L' := [some (.ref a), some (.int (nI i)), some (.int (nI n)), some (.int (nI (i + 1 + k)))]) (st' := [.ref a, .ref a]) (by decide +kernel) rfl ?_
      refine V.getf hG hF k_RX0_9 (by decide +kernel) gA rfl ?_
      refine V.run hF [(.iload_n 3, 1, .null)] (pc' := 25) (L' := [some (.ref a), some (.int (nI i)), some (.int (nI n)), some (.int (nI (i + 1 + k)))]) (st' := [.int (nI (i + 1 + k)), .ref d, .ref a]) (by decide +kernel) rfl ?_
      refine V.ialdN (j := i + 1 + k) hG hF (by decide +kernel) gd (by omega) (by decide) ?_
      refine V.run hF [(.aload_n 0, 1, .null)] (pc' := 27) (L' := [some (.ref a), some (.int (nI i)), some (.int (nI n)), some (.int (nI (i + 1 + k)))]) (st' := [.ref a, .int ((shk i k D) (i + 1 + k)), .ref a]) (by decide +kernel) rfl ?_
      refine V.getf hG hF k_RX0_15 (by decide +kernel) gA rfl ?_
      refine V.run hF [(.iload_n 3, 1, .null)] (pc' := 31) (L' := [some (.ref a), some (.int (nI i)), some (.int (nI n)), some (.int (nI (i + 1 + k)))]) (st' := [.int (nI (i + 1 + k)), .ref c, .int ((shk i k D) (i + 1 + k)), .ref a]) (by decide +kernel) rfl ?_
      refine V.ialdN (j := i + 1 + k) hG hF (by decide +kernel) gc (by omega) (by decide) ?_
      refine V.run hF [(.aload_n 0, 1, .null)] (pc' := 33) (L' := [some (.ref a), some (.int (nI i)), some (.int (nI n)), some (.int (nI (i + 1 + k)))]) (st' := [.ref a, .int ((shk i k C) (i + 1 + k)), .int ((shk i k D) (i + 1 + k)), .ref a]) (by decide +kernel) rfl ?_
      refine V.getf hG hF k_RX0_18 (by decide +kernel) gA rfl ?_
      refine V.run hF [(.iload_n 3, 1, .null)] (pc' := 37) (L' := [some (.ref a), some (.int (nI i)), some (.int (nI n)), some (.int (nI (i + 1 + k)))]) (st' := [.int (nI (i + 1 + k)), .ref m, .int ((shk i k C) (i + 1 + k)), .int ((shk i k D) (i + 1 + k)), .ref a]) (by decide +kernel) rfl ?_
      refine V.ialdN (j := i + 1 + k) hG hF (by decide +kernel) gm (by omega) (by decide) ?_
      refine V.run hF [(.aload_n 0, 1, .null)] (pc' := 39) (L' := [some (.ref a), some (.int (nI i)), some (.int (nI n)), some (.int (nI (i + 1 + k)))]) (st' := [.ref a, .int ((shk i k M) (i + 1 + k)), .int ((shk i k C) (i + 1 + k)), .int ((shk i k D) (i + 1 + k)), .ref a]) (by decide +kernel) rfl ?_
      refine V.getf hG hF k_RX0_21 (by decide +kernel) gA rfl ?_
      refine V.run hF [(.iload_n 3, 1, .null)] (pc' := 43) (L' := [some (.ref a), some (.int (nI i)), some (.int (nI n)), some (.int (nI (i + 1 + k)))]) (st' := [.int (nI (i + 1 + k)), .ref w, .int ((shk i k M) (i + 1 + k)), .int ((shk i k C) (i + 1 + k)), .int ((shk i k D) (i + 1 + k)), .ref a]) (by decide +kernel) rfl ?_
      refine V.ialdN (j := i + 1 + k) hG hF (by decide +kernel) gw (by omega) (by decide) ?_
      refine V.callV (As := [.int ((shk i k D) (i + 1 + k)), .int ((shk i k C) (i + 1 + k)), .int ((shk i k M) (i + 1 + k)), .int ((shk i k W) (i + 1 + k))]) (st := []) hG hF k_RX0_28 (by decide +kernel) (c_X0_append hG hL1 hnd (by omega) _ _ _ _) gA rfl rfl ⟨by rw [hRm]; decide, by rw [hRm]; decide⟩ (Nat.le_of_ble_eq_true rfl) rfl (fun v h_1 gp1 => ?_) (fun E h9 hx => hx.elim)
      obtain ⟨rfl, hL2, hk2⟩ := gp1
      show V G F _ _ _ 47 [some (.ref a), some (.int (nI i)), some (.int (nI n)), some (.int (nI (i + 1 + k)))] [] h_1
      refine V.run hF [(.iinc 3 1, 3, .int 1), (.goto (-36), 3, .null)] (pc' := 14) (L' := [some (.ref a), some (.int (nI i)), some (.int (nI n)), some (.int ((nI (i + 1 + k)) + 1))]) (st' := []) (by decide +kernel) rfl ?_
      rw [nI_1 (i + 1 + k)]
      rw [shk_n (by omega), shk_n (by omega), shk_n (by omega), shk_n (by omega), show i + 1 + k = i + k + 1 by omega, shk_s, shk_s, shk_s, shk_s] at hL2
      exact ih (by omega) _ hL2 (hkp.tr hk2)
  refine V.run hF [(.aload_n 0, 1, .null)] (pc' := 1) (L' := [some (.ref a), some (.int (nI i)), none, none]) (st' := [.ref a]) (by decide +kernel) rfl ?_
  refine V.getf hG hF k_RX0_24 (by decide +kernel) hA rfl ?_
  refine V.run hF [(.istore_n 2, 1, .null), (.aload_n 0, 1, .null), (.iload_n 1, 1, .null)] (pc' := 7) (L' := [some (.ref a), some (.int (nI i)), some (.int (nI n)), none]) (st' := [.int (nI i), .ref a]) (by decide +kernel) rfl ?_
  refine V.putf hG hF k_RX0_24 (by decide +kernel) hA (fun C T N hc => by cases hc; exact ⟨rfl, .int, by decide +kernel, rfl, rfl⟩) (Nat.le_of_ble_eq_true rfl) ?_
  obtain ⟨h_2, gh2⟩ : ∃ z : Hp, z = hset h a (.inr (0, [.ref d, .ref c, .ref m, .ref w, .int (nI i)])) := ⟨_, rfl⟩
  refine V.hp gh2 ?_
  have gk2 : ∀ q : Nat, q ≠ a → h_2 q = h q := fun q hq => by rw [gh2]; exact hset_ne hq
  have gs2 : h_2 a = some (.inr (0, [.ref d, .ref c, .ref m, .ref w, .int (nI i)])) := by rw [gh2]; exact hset_eq
  refine V.run hF [(.iload_n 1, 1, .null), (.iconst 1, 1, .int 1), (.iadd, 1, .null), (.istore_n 3, 1, .null)] (pc' := 14) (L' := [some (.ref a), some (.int (nI i)), some (.int (nI n)), some (.int (nI i + 1))]) (st' := []) (by decide +kernel) rfl ?_
  rw [nI_1 i]
  refine loop 0 (Nat.zero_le _) _ ?_ (fun q e1 _ _ _ _ => gk2 q e1)
  rw [shk_0, shk_0, shk_0, shk_0]
  exact ⟨gs2, (gk2 _ (Ne.symm na1)).trans hd, (gk2 _ (Ne.symm na2)).trans hc, (gk2 _ (Ne.symm na3)).trans hm, (gk2 _ (Ne.symm na4)).trans hw⟩
/-- the first k rows of g, then f's -/
def mxk (k : Nat) (g f : Nat → Int32) : Nat → Int32 := fun j => if j < k then g j else f j
theorem mxk_0 {g f : Nat → Int32} : mxk 0 g f = f := by
  funext j
  unfold mxk
  rw [if_neg (by omega)]
theorem mxk_s {k : Nat} {g f : Nat → Int32} : upd (mxk k g f) k (g k) = mxk (k + 1) g f := by
  funext j
  unfold upd mxk
  by_cases h : j = k
  · subst h
    rw [if_pos rfl, if_pos (by omega)]
  · rw [if_neg h]
    by_cases h2 : j < k
    · rw [if_pos h2, if_pos (by omega)]
    · rw [if_neg h2, if_neg (by omega)]
def dj5 (b e f g k a d c m w : Nat) : Prop := ∀ x ∈ [b, e, f, g, k], ∀ y ∈ [a, d, c, m, w], x ≠ y
theorem kp5.LL {h h' : Hp} {a d c m w b e f g k n : Nat} {D C M W : Nat → Int32} (hk : kp5 h h' a d c m w) (hj : dj5 b e f g k a d c m w) (hL : LLc h b e f g k D C M W n) : LLc h' b e f g k D C M W n := by
  obtain ⟨h1, h2, h3, h4, h5⟩ := hL
  refine ⟨(hk b ?_ ?_ ?_ ?_ ?_).trans h1, (hk e ?_ ?_ ?_ ?_ ?_).trans h2, (hk f ?_ ?_ ?_ ?_ ?_).trans h3, (hk g ?_ ?_ ?_ ?_ ?_).trans h4, (hk k ?_ ?_ ?_ ?_ ?_).trans h5⟩ <;> exact hj _ (by simp) _ (by simp)
set_option maxHeartbeats 4000000 in
theorem c_X0_become (hG : GOk G) (hL : LLc h a d c m w D C M W n) (hnd : nd4 d c m w) {b e f g k n2 : Nat} {D2 C2 M2 W2 : Nat → Int32} (hB : LLc h b e f g k D2 C2 M2 W2 n2) (hj : dj5 b e f g k a d c m w) (hn : n2 ≤ 12) :
    Ct G yX0_become (.code yX0_become cX0_become 3 none) 1 25 0 0 [.ref a, .ref b] h (is_v fun h' => LLc h' a d c m w (mxk n2 D2 D) (mxk n2 C2 C) (mxk n2 M2 M) (mxk n2 W2 W) n2 ∧ kp5 h h' a d c m w) pxN := by
  refine Ct.of (by decide +kernel) (Nat.le_of_ble_eq_true rfl) fun F hF hT hN hRm => ?_
  obtain ⟨⟨na1, na2, na3, na4⟩, n1, n2', n3, n4, n5, n6⟩ := hL.nd hnd
  obtain ⟨hA, hd, hc, hm, hw⟩ := hL
  have loop : ∀ i, i ≤ n2 → ∀ h1 : Hp, LLc h1 a d c m w (mxk i D2 D) (mxk i C2 C) (mxk i M2 M) (mxk i W2 W) i → kp5 h h1 a d c m w → V G F (fin G F (is_v fun h' => LLc h' a d c m w (mxk n2 D2 D) (mxk n2 C2 C) (mxk n2 M2 M) (mxk n2 W2 W) n2 ∧ kp5 h h' a d c m w) pxN) 0 0 7 [some (.ref a), some (.ref b), some (.int (nI i))] [] h1 := by
    refine lp_up _ fun i hi ih => ?_
    intro h1 hL1 hkp
    obtain ⟨gb, ge, gf, gg, gk⟩ := hkp.LL hj hB
    obtain ⟨gA, gd, gc, gm, gw⟩ := id hL1
    refine V.run hF [(.iload_n 2, 1, .null), (.aload_n 1, 1, .null)] (pc' := 9) (L' := [some (.ref a), some (.ref b), some (.int (nI i))]) (st' := [.ref b, .int (nI i)]) (by decide +kernel) rfl ?_
    refine V.getf hG hF k_RX0_24 (by decide +kernel) gb rfl ?_
    refine V.icmpN_ge (i := i) (j := n2) hF (off := 37) (tgt := 49) (by decide +kernel) (by decide) (by omega) (by omega) (fun c1 => ?_) (fun c1 => ?_)
    · obtain rfl : i = n2 := by omega
      exact V.retv hF (by decide +kernel) ⟨rfl, hL1, hkp⟩
    · skip
      refine V.run hF [(.aload_n 0, 1, .null), (.aload_n 1, 1, .null)] (pc' := 17) (L' := [some (.ref a), some (.ref b), some (.int (nI i))]) (st' := [.ref b, .ref a]) (by decide +kernel) rfl ?_
      refine V.getf hG hF k_RX0_9 (by decide +kernel) gb rfl ?_
      refine V.run hF [(.iload_n 2, 1, .null)] (pc' := 21) (L' := [some (.ref a), some (.ref b), some (.int (nI i))]) (st' := [.int (nI i), .ref e, .ref a]) (by decide +kernel) rfl ?_
      refine V.ialdN (j := i) hG hF (by decide +kernel) ge (by omega) (by decide) ?_
      refine V.run hF [(.aload_n 1, 1, .null)] (pc' := 23) (L' := [some (.ref a), some (.ref b), some (.int (nI i))]) (st' := [.ref b, .int (D2 i), .ref a]) (by decide +kernel) rfl ?_
      refine V.getf hG hF k_RX0_15 (by decide +kernel) gb rfl ?_
      refine V.run hF [(.iload_n 2, 1, .null)] (pc' := 27) (L' := [some (.ref a), some (.ref b), some (.int (nI i))]) (st' := [.int (nI i), .ref f, .int (D2 i), .ref a]) (by decide +kernel) rfl ?_
      refine V.ialdN (j := i) hG hF (by decide +kernel) gf (by omega) (by decide) ?_
      refine V.run hF [(.aload_n 1, 1, .null)] (pc' := 29) (L' := [some (.ref a), some (.ref b), some (.int (nI i))]) (st' := [.ref b, .int (C2 i), .int (D2 i), .ref a]) (by decide +kernel) rfl ?_
      refine V.getf hG hF k_RX0_18 (by decide +kernel) gb rfl ?_
      refine V.run hF [(.iload_n 2, 1, .null)] (pc' := 33) (L' := [some (.ref a), some (.ref b), some (.int (nI i))]) (st' := [.int (nI i), .ref g, .int (C2 i), .int (D2 i), .ref a]) (by decide +kernel) rfl ?_
      refine V.ialdN (j := i) hG hF (by decide +kernel) gg (by omega) (by decide) ?_
      refine V.run hF [(.aload_n 1, 1, .null)] (pc' := 35) (L' := [some (.ref a), some (.ref b), some (.int (nI i))]) (st' := [.ref b, .int (M2 i), .int (C2 i), .int (D2 i), .ref a]) (by decide +kernel) rfl ?_
      refine V.getf hG hF k_RX0_21 (by decide +kernel) gb rfl ?_
      refine V.run hF [(.iload_n 2, 1, .null)] (pc' := 39) (L' := [some (.ref a), some (.ref b), some (.int (nI i))]) (st' := [.int (nI i), .ref k, .int (M2 i), .int (C2 i), .int (D2 i), .ref a]) (by decide +kernel) rfl ?_
      refine V.ialdN (j := i) hG hF (by decide +kernel) gk (by omega) (by decide) ?_
      refine V.callV (As := [.int (D2 i), .int (C2 i), .int (M2 i), .int (W2 i)]) (st := []) hG hF k_RX0_28 (by decide +kernel) (c_X0_append hG hL1 hnd (by omega) _ _ _ _) gA rfl rfl ⟨by rw [hRm]; decide, by rw [hRm]; decide⟩ (Nat.le_of_ble_eq_true rfl) rfl (fun v h_1 gp1 => ?_) (fun E h9 hx => hx.elim)
      obtain ⟨rfl, hL2, hk2⟩ := gp1
      show V G F _ _ _ 43 [some (.ref a), some (.ref b), some (.int (nI i))] [] h_1
      refine V.run hF [(.iinc 2 1, 3, .int 1), (.goto (-39), 3, .null)] (pc' := 7) (L' := [some (.ref a), some (.ref b), some (.int ((nI i) + 1))]) (st' := []) (by decide +kernel) rfl ?_
      rw [nI_1 i]
      rw [mxk_s, mxk_s, mxk_s, mxk_s] at hL2
      exact ih (by omega) _ hL2 (hkp.tr hk2)
  refine V.run hF [(.aload_n 0, 1, .null), (.iconst 0, 1, .int 0)] (pc' := 2) (L' := [some (.ref a), some (.ref b), none]) (st' := [.int 0, .ref a]) (by decide +kernel) rfl ?_
  refine V.putf hG hF k_RX0_24 (by decide +kernel) hA (fun C T N hc => by cases hc; exact ⟨rfl, .int, by decide +kernel, rfl, rfl⟩) (Nat.le_of_ble_eq_true rfl) ?_
  obtain ⟨h_2, gh2⟩ : ∃ z : Hp, z = hset h a (.inr (0, [.ref d, .ref c, .ref m, .ref w, .int 0])) := ⟨_, rfl⟩
  refine V.hp gh2 ?_
  have gk2 : ∀ q : Nat, q ≠ a → h_2 q = h q := fun q hq => by rw [gh2]; exact hset_ne hq
  have gs2 : h_2 a = some (.inr (0, [.ref d, .ref c, .ref m, .ref w, .int 0])) := by rw [gh2]; exact hset_eq
  refine V.run hF [(.iconst 0, 1, .int 0), (.istore_n 2, 1, .null)] (pc' := 7) (L' := [some (.ref a), some (.ref b), some (.int 0)]) (st' := []) (by decide +kernel) rfl ?_
  refine loop 0 (Nat.zero_le _) _ ?_ (fun q e1 _ _ _ _ => gk2 q e1)
  rw [mxk_0, mxk_0, mxk_0, mxk_0]
  exact ⟨gs2, (gk2 _ (Ne.symm na1)).trans hd, (gk2 _ (Ne.symm na2)).trans hc, (gk2 _ (Ne.symm na3)).trans hm, (gk2 _ (Ne.symm na4)).trans hw⟩
set_option maxHeartbeats 4000000 in
theorem c_X0_init (hG : GOk G) (hA : h a = some (.inr (0, [.null, .null, .null, .null, .int 0]))) :
    Ct G yX0_init (.code yX0_init cX0_init 1 none) 1 12 4 48 [.ref a] h (is_v fun h' => ∃ d c m w, LLc h' a d c m w (fun _ => 0) (fun _ => 0) (fun _ => 0) (fun _ => 0) 0 ∧ nd4 d c m w ∧ (h d = none ∧ h c = none ∧ h m = none ∧ h w = none) ∧ kp5 h h' a d c m w) pxN := by
  refine Ct.of (by decide +kernel) (Nat.le_of_ble_eq_true rfl) fun F hF hT hN hRm => ?_
  refine V.run hF [(.aload_n 0, 1, .null)] (pc' := 1) (L' := [some (.ref a)]) (st' := [.ref a]) (by decide +kernel) rfl ?_
  refine V.objInit hG hF tw_35 tw_oi1 tw_oi2 (by decide +kernel) ⟨by rw [hRm]; decide, by rw [hRm]; decide⟩ ?_
  refine V.run hF [(.aload_n 0, 1, .null), (.bipush 12, 2, .int (nI 12))] (pc' := 7) (L' := [some (.ref a)]) (st' := [.int (nI 12), .ref a]) (by decide +kernel) rfl ?_
  refine V.newa (aty := .int) (t := 0) (N := 12) (a0 := (12, .inl (fun _ => 0))) hG hF (by decide) rfl tw_arr_0.1 (by decide +kernel) (by decide) (by decide) (by decide) (fun _ => rfl) (fun d hq_d => ?_)
  have ne_a_d : a ≠ d := ne_new hA hq_d
  obtain ⟨h_1, gh1⟩ : ∃ z : Hp, z = hset h d (.inl (0, 12, .inl (fun _ => 0))) := ⟨_, rfl⟩
  refine V.hp gh1 ?_
  have gk1 : ∀ q : Nat, q ≠ d → h_1 q = h q := fun q hq => by rw [gh1]; exact hset_ne hq
  have gs1 : h_1 d = some (.inl (0, 12, .inl (fun _ => 0))) := by rw [gh1]; exact hset_eq
  have gf2 : h_1 a = some (.inr (0, [.null, .null, .null, .null, .int 0])) := (gk1 a (by first | assumption | exact Ne.symm (by assumption) | omega)).trans hA
  refine V.putF hG hF ko_RX0_9 hN (by decide +kernel) gf2 (fun C T N hc => by cases hc; exact ⟨rfl, rfl, (.array .int), by decide +kernel, rfl, rfl⟩) (Nat.le_of_ble_eq_true rfl) ?_
  obtain ⟨h_3, gh3⟩ : ∃ z : Hp, z = hset h_1 a (.inr (0, [.ref d, .null, .null, .null, .int 0])) := ⟨_, rfl⟩
  refine V.hp gh3 ?_
  have gk3 : ∀ q : Nat, q ≠ a → h_3 q = h_1 q := fun q hq => by rw [gh3]; exact hset_ne hq
  have gs3 : h_3 a = some (.inr (0, [.ref d, .null, .null, .null, .int 0])) := by rw [gh3]; exact hset_eq
  refine V.run hF [(.aload_n 0, 1, .null), (.bipush 12, 2, .int (nI 12))] (pc' := 15) (L' := [some (.ref a)]) (st' := [.int (nI 12), .ref a]) (by decide +kernel) rfl ?_
  have gf4 : h_3 d = some (.inl (0, 12, .inl (fun _ => 0))) := (gk3 d (by first | assumption | exact Ne.symm (by assumption) | omega)).trans gs1
  refine V.newa (aty := .int) (t := 0) (N := 12) (a0 := (12, .inl (fun _ => 0))) hG hF (by decide) rfl tw_arr_0.1 (by decide +kernel) (by decide) (by decide) (by decide) (fun _ => rfl) (fun c hq_c => ?_)
  have ne_a_c : a ≠ c := ne_new gs3 hq_c
  have ne_d_c : d ≠ c := ne_new gf4 hq_c
  obtain ⟨h_5, gh5⟩ : ∃ z : Hp, z = hset h_3 c (.inl (0, 12, .inl (fun _ => 0))) := ⟨_, rfl⟩
  refine V.hp gh5 ?_
  have gk5 : ∀ q : Nat, q ≠ c → h_5 q = h_3 q := fun q hq => by rw [gh5]; exact hset_ne hq
  have gs5 : h_5 c = some (.inl (0, 12, .inl (fun _ => 0))) := by rw [gh5]; exact hset_eq
  have gf6 : h_5 a = some (.inr (0, [.ref d, .null, .null, .null, .int 0])) := (gk5 a (by first | assumption | exact Ne.symm (by assumption) | omega)).trans gs3
  refine V.putF hG hF ko_RX0_15 hN (by decide +kernel) gf6 (fun C T N hc => by cases hc; exact ⟨rfl, rfl, (.array .int), by decide +kernel, rfl, rfl⟩) (Nat.le_of_ble_eq_true rfl) ?_
  obtain ⟨h_7, gh7⟩ : ∃ z : Hp, z = hset h_5 a (.inr (0, [.ref d, .ref c, .null, .null, .int 0])) := ⟨_, rfl⟩
  refine V.hp gh7 ?_
  have gk7 : ∀ q : Nat, q ≠ a → h_7 q = h_5 q := fun q hq => by rw [gh7]; exact hset_ne hq
  have gs7 : h_7 a = some (.inr (0, [.ref d, .ref c, .null, .null, .int 0])) := by rw [gh7]; exact hset_eq
  refine V.run hF [(.aload_n 0, 1, .null), (.bipush 12, 2, .int (nI 12))] (pc' := 23) (L' := [some (.ref a)]) (st' := [.int (nI 12), .ref a]) (by decide +kernel) rfl ?_
  have gf8 : h_7 d = some (.inl (0, 12, .inl (fun _ => 0))) := (gk7 d (by first | assumption | exact Ne.symm (by assumption) | omega)).trans ((gk5 d (by first | assumption | exact Ne.symm (by assumption) | omega)).trans gf4)
  have gf9 : h_7 c = some (.inl (0, 12, .inl (fun _ => 0))) := (gk7 c (by first | assumption | exact Ne.symm (by assumption) | omega)).trans gs5
  refine V.newa (aty := .int) (t := 0) (N := 12) (a0 := (12, .inl (fun _ => 0))) hG hF (by decide) rfl tw_arr_0.1 (by decide +kernel) (by decide) (by decide) (by decide) (fun _ => rfl) (fun m hq_m => ?_)
  have ne_a_m : a ≠ m := ne_new gs7 hq_m
  have ne_d_m : d ≠ m := ne_new gf8 hq_m
  have ne_c_m : c ≠ m := ne_new gf9 hq_m
  obtain ⟨h_10, gh10⟩ : ∃ z : Hp, z = hset h_7 m (.inl (0, 12, .inl (fun _ => 0))) := ⟨_, rfl⟩
  refine V.hp gh10 ?_
  have gk10 : ∀ q : Nat, q ≠ m → h_10 q = h_7 q := fun q hq => by rw [gh10]; exact hset_ne hq
  have gs10 : h_10 m = some (.inl (0, 12, .inl (fun _ => 0))) := by rw [gh10]; exact hset_eq
  have gf11 : h_10 a = some (.inr (0, [.ref d, .ref c, .null, .null, .int 0])) := (gk10 a (by first | assumption | exact Ne.symm (by assumption) | omega)).trans gs7
  refine V.putF hG hF ko_RX0_18 hN (by decide +kernel) gf11 (fun C T N hc => by cases hc; exact ⟨rfl, rfl, (.array .int), by decide +kernel, rfl, rfl⟩) (Nat.le_of_ble_eq_true rfl) ?_
  obtain ⟨h_12, gh12⟩ : ∃ z : Hp, z = hset h_10 a (.inr (0, [.ref d, .ref c, .ref m, .null, .int 0])) := ⟨_, rfl⟩
  refine V.hp gh12 ?_
  have gk12 : ∀ q : Nat, q ≠ a → h_12 q = h_10 q := fun q hq => by rw [gh12]; exact hset_ne hq
  have gs12 : h_12 a = some (.inr (0, [.ref d, .ref c, .ref m, .null, .int 0])) := by rw [gh12]; exact hset_eq
  refine V.run hF [(.aload_n 0, 1, .null), (.bipush 12, 2, .int (nI 12))] (pc' := 31) (L' := [some (.ref a)]) (st' := [.int (nI 12), .ref a]) (by decide +kernel) rfl ?_
  have gf13 : h_12 d = some (.inl (0, 12, .inl (fun _ => 0))) := (gk12 d (by first | assumption | exact Ne.symm (by assumption) | omega)).trans ((gk10 d (by first | assumption | exact Ne.symm (by assumption) | omega)).trans gf8)
  have gf14 : h_12 c = some (.inl (0, 12, .inl (fun _ => 0))) := (gk12 c (by first | assumption | exact Ne.symm (by assumption) | omega)).trans ((gk10 c (by first | assumption | exact Ne.symm (by assumption) | omega)).trans gf9)
  have gf15 : h_12 m = some (.inl (0, 12, .inl (fun _ => 0))) := (gk12 m (by first | assumption | exact Ne.symm (by assumption) | omega)).trans gs10
  refine V.newa (aty := .int) (t := 0) (N := 12) (a0 := (12, .inl (fun _ => 0))) hG hF (by decide) rfl tw_arr_0.1 (by decide +kernel) (by decide) (by decide) (by decide) (fun _ => rfl) (fun w hq_w => ?_)
  have ne_a_w : a ≠ w := ne_new gs12 hq_w
  have ne_d_w : d ≠ w := ne_new gf13 hq_w
  have ne_c_w : c ≠ w := ne_new gf14 hq_w
  have ne_m_w : m ≠ w := ne_new gf15 hq_w
  obtain ⟨h_16, gh16⟩ : ∃ z : Hp, z = hset h_12 w (.inl (0, 12, .inl (fun _ => 0))) := ⟨_, rfl⟩
  refine V.hp gh16 ?_
  have gk16 : ∀ q : Nat, q ≠ w → h_16 q = h_12 q := fun q hq => by rw [gh16]; exact hset_ne hq
  have gs16 : h_16 w = some (.inl (0, 12, .inl (fun _ => 0))) := by rw [gh16]; exact hset_eq
  have gf17 : h_16 a = some (.inr (0, [.ref d, .ref c, .ref m, .null, .int 0])) := (gk16 a (by first | assumption | exact Ne.symm (by assumption) | omega)).trans gs12
  refine V.putF hG hF ko_RX0_21 hN (by decide +kernel) gf17 (fun C T N hc => by cases hc; exact ⟨rfl, rfl, (.array .int), by decide +kernel, rfl, rfl⟩) (Nat.le_of_ble_eq_true rfl) ?_
  obtain ⟨h_18, gh18⟩ : ∃ z : Hp, z = hset h_16 a (.inr (0, [.ref d, .ref c, .ref m, .ref w, .int 0])) := ⟨_, rfl⟩
  refine V.hp gh18 ?_
  have gk18 : ∀ q : Nat, q ≠ a → h_18 q = h_16 q := fun q hq => by rw [gh18]; exact hset_ne hq
  have gs18 : h_18 a = some (.inr (0, [.ref d, .ref c, .ref m, .ref w, .int 0])) := by rw [gh18]; exact hset_eq
  have gf19 : h_18 d = some (.inl (0, 12, .inl (fun _ => 0))) := (gk18 d (by first | assumption | exact Ne.symm (by assumption) | omega)).trans ((gk16 d (by first | assumption | exact Ne.symm (by assumption) | omega)).trans gf13)
  have ed := gf19
  have gf20 : h_18 c = some (.inl (0, 12, .inl (fun _ => 0))) := (gk18 c (by first | assumption | exact Ne.symm (by assumption) | omega)).trans ((gk16 c (by first | assumption | exact Ne.symm (by assumption) | omega)).trans gf14)
  have ec := gf20
  have gf21 : h_18 m = some (.inl (0, 12, .inl (fun _ => 0))) := (gk18 m (by first | assumption | exact Ne.symm (by assumption) | omega)).trans ((gk16 m (by first | assumption | exact Ne.symm (by assumption) | omega)).trans gf15)
  have em := gf21
  have gf22 : h_18 w = some (.inl (0, 12, .inl (fun _ => 0))) := (gk18 w (by first | assumption | exact Ne.symm (by assumption) | omega)).trans gs16
  have ew := gf22
  have hc0 : h c = none := by rw [← gk1 c (Ne.symm ne_d_c), ← gk3 c (Ne.symm ne_a_c)]; exact hq_c
  have hm0 : h m = none := by rw [← gk1 m (Ne.symm ne_d_m), ← gk3 m (Ne.symm ne_a_m), ← gk5 m (Ne.symm ne_c_m), ← gk7 m (Ne.symm ne_a_m)]; exact hq_m
  have hw0 : h w = none := by rw [← gk1 w (Ne.symm ne_d_w), ← gk3 w (Ne.symm ne_a_w), ← gk5 w (Ne.symm ne_c_w), ← gk7 w (Ne.symm ne_a_w), ← gk10 w (Ne.symm ne_m_w), ← gk12 w (Ne.symm ne_a_w)]; exact hq_w
  exact V.retv hF (by decide +kernel) ⟨rfl, d, c, m, w, ⟨gs18, ed, ec, em, ew⟩, ⟨ne_d_c, ne_d_m, ne_d_w, ne_c_m, ne_c_w, ne_m_w⟩, ⟨hq_d, hc0, hm0, hw0⟩, fun q e1 e2 e3 e4 e5 => ((gk18 q e1).trans ((gk16 q e5).trans ((gk12 q e1).trans ((gk10 q e4).trans ((gk7 q e1).trans ((gk5 q e3).trans ((gk3 q e1).trans ((gk1 q e2)))))))))⟩
end LLw
