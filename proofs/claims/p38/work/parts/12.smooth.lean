/-! ===== Tablet, Smoothing ===== -/
section Ext
variable {G : Gt} {F : Ft} {Q : State → Prop} {kc ks pc : Nat} {L : List (Option Value)} {st : List Value} {h : Hp}
/-- an int array's contents may be told by any function that agrees with it within its length -/
theorem V.extI {a n k : Nat} {f g : Nat → Int32} (hc : h a = some (.inl (k, n, .inl f))) (hfg : ∀ j, j < n → f j = g j) (kk : V G F Q kc ks pc L st (hset h a (.inl (k, n, .inl g)))) : V G F Q kc ks pc L st h := by
  intro H locs ls cells slots hR hS hL hz h1 h2
  refine kk H locs ls cells slots ?_ hS hL hz h1 h2
  refine hR.store (hR a _ hc).1 ?_ (fun q _ => rfl)
  have e : H[a]? = some (arrV (gA G k) n (fun j => .int (f j))) := (hR a _ hc).2
  show H[a]? = some (arrV (gA G k) n (fun j => .int (g j)))
  rw [e]
  congr 1
  unfold arrV
  congr 1
  apply Array.ext
  · simp
  · intro i h1 h2
    simp at h1
    simp [hfg i h1]
end Ext
abbrev tf (b : Prop) [Decidable b] : Int32 := if b then 1 else 0
section Tb
variable {G : Gt} {h : Hp} {a : Nat}
set_option maxHeartbeats 4000000 in
theorem c_X2_meltsAt (hG : GOk G) {hd ce x : Int32} {l : Nat} (hA : h a = some (.inr (2, [.int hd, .int ce, .ref l]))) :
    Ct G yX2_meltsAt (.code yX2_meltsAt cX2_meltsAt 2 (some .boolean)) 0 0 0 0 [.ref a, .int x] h (is_i (tf (ce = 0 ∧ hd < x)) h) pxN := by
  refine Ct.of (by decide +kernel) (Nat.le_of_ble_eq_true rfl) fun F hF hT hN hRm => ?_
  refine V.run hF [(.aload_n 0, 1, .null)] (pc' := 1) (L' := [some (.ref a), some (.int x)]) (st' := [.ref a]) (by decide +kernel) rfl ?_
  refine V.getf hG hF k_RX2_20 (by decide +kernel) hA rfl ?_
  refine V.if_ne hF (off := 15) (tgt := 19) (by decide +kernel) (by decide) (fun c1 => ?_) (fun c1 => ?_)
  · skip
    refine V.run hF [(.iconst 0, 1, .int 0)] (pc' := 20) (L' := [some (.ref a), some (.int x)]) (st' := [.int 0]) (by decide +kernel) rfl ?_
    exact V.retz hF (by decide +kernel) rfl ⟨by rw [tf, if_neg (fun q => c1 q.1)], rfl⟩
  · skip
    refine V.run hF [(.aload_n 0, 1, .null)] (pc' := 8) (L' := [some (.ref a), some (.int x)]) (st' := [.ref a]) (by decide +kernel) rfl ?_
    refine V.getf hG hF k_RX2_16 (by decide +kernel) hA rfl ?_
    refine V.run hF [(.iload_n 1, 1, .null)] (pc' := 12) (L' := [some (.ref a), some (.int x)]) (st' := [.int x, .int hd]) (by decide +kernel) rfl ?_
    refine V.icmp_ge hF (off := 7) (tgt := 19) (by decide +kernel) (by decide) (fun c2 => ?_) (fun c2 => ?_)
    · skip
      refine V.run hF [(.iconst 0, 1, .int 0)] (pc' := 20) (L' := [some (.ref a), some (.int x)]) (st' := [.int 0]) (by decide +kernel) rfl ?_
      exact V.retz hF (by decide +kernel) rfl ⟨by rw [tf, if_neg (fun q => absurd q.2 (Int32.not_lt.mpr c2))], rfl⟩
    · skip
      refine V.run hF [(.iconst 1, 1, .int 1), (.goto 4, 3, .null)] (pc' := 20) (L' := [some (.ref a), some (.int x)]) (st' := [.int 1]) (by decide +kernel) rfl ?_
      exact V.retz hF (by decide +kernel) rfl ⟨by rw [tf, if_pos ⟨c1, Int32.not_le.mp c2⟩], rfl⟩
set_option maxHeartbeats 4000000 in
theorem c_X2_init (hG : GOk G) {x : Int32} (hA : h a = some (.inr (2, [.int 0, .int 0, .null]))) :
    Ct G yX2_init (.code yX2_init cX2_init 2 none) 2 32 5 53 [.ref a, .int x] h (is_v fun h' => ∃ l d c m w, h' a = some (.inr (2, [.int x, .int 0, .ref l])) ∧ LLc h' l d c m w (fun _ => 0) (fun _ => 0) (fun _ => 0) (fun _ => 0) 0 ∧ nd4 d c m w ∧ (h l = none ∧ h d = none ∧ h c = none ∧ h m = none ∧ h w = none) ∧ (∀ q, q ≠ a → q ≠ l → q ≠ d → q ≠ c → q ≠ m → q ≠ w → h' q = h q)) pxN := by
  refine Ct.of (by decide +kernel) (Nat.le_of_ble_eq_true rfl) fun F hF hT hN hRm => ?_
  refine V.run hF [(.aload_n 0, 1, .null)] (pc' := 1) (L' := [some (.ref a), some (.int x)]) (st' := [.ref a]) (by decide +kernel) rfl ?_
  refine V.objInit hG hF tw_475 tw_oi1 tw_oi2 (by decide +kernel) ⟨by rw [hRm]; decide, by rw [hRm]; decide⟩ ?_
  refine V.run hF [(.aload_n 0, 1, .null)] (pc' := 5) (L' := [some (.ref a), some (.int x)]) (st' := [.ref a]) (by decide +kernel) rfl ?_
  refine V.new hG hF k_RX2_7 (by decide +kernel) (fun l hq_l => ?_)
  have ne_a_l : a ≠ l := ne_new hA hq_l
  obtain ⟨h_1, gh1⟩ : ∃ z : Hp, z = hset h l (.inr (0, [.null, .null, .null, .null, .int 0])) := ⟨_, rfl⟩
  refine V.hp gh1 ?_
  have gk1 : ∀ q : Nat, q ≠ l → h_1 q = h q := fun q hq => by rw [gh1]; exact hset_ne hq
  have gs1 : h_1 l = some (.inr (0, [.null, .null, .null, .null, .int 0])) := by rw [gh1]; exact hset_eq
  refine V.run hF [(.dup, 1, .null)] (pc' := 9) (L' := [some (.ref a), some (.int x)]) (st' := [.ref l, .ref l, .ref a]) (by decide +kernel) rfl ?_
  have gf2 : h_1 a = some (.inr (2, [.int 0, .int 0, .null])) := (gk1 a (by first | assumption | exact Ne.symm (by assumption) | omega)).trans hA
  have hA1 := gf2
  have hkl := gk1
  refine V.callI (As := []) (st := [.ref l, .ref a]) hG hF k_RX2_9 (by decide +kernel) (c_X0_init hG gs1) rfl ⟨by rw [hRm]; decide, by rw [hRm]; decide⟩ (Nat.le_of_ble_eq_true rfl) rfl (fun v h_3 gp3 => ?_)
  obtain ⟨rfl, d, c, m, w, hLL, hnd, ⟨f1, f2, f3, f4⟩, hk2⟩ := gp3
  show V G F _ _ _ 12 [some (.ref a), some (.int x)] [.ref l, .ref a] h_3
  have na : a ≠ d ∧ a ≠ c ∧ a ≠ m ∧ a ≠ w := ⟨ne_new hA1 f1, ne_new hA1 f2, ne_new hA1 f3, ne_new hA1 f4⟩
  have hA2 := (hk2 a ne_a_l na.1 na.2.1 na.2.2.1 na.2.2.2).trans hA1
  have hll := hLL.nd hnd
  refine V.putF hG hF ko_RX2_10 hN (by decide +kernel) hA2 (fun C T N hc => by cases hc; exact ⟨rfl, rfl, (.object "TallyWax$LineList"), by decide +kernel, rfl, rfl⟩) (Nat.le_of_ble_eq_true rfl) ?_
  obtain ⟨h_4, gh4⟩ : ∃ z : Hp, z = hset h_3 a (.inr (2, [.int 0, .int 0, .ref l])) := ⟨_, rfl⟩
  refine V.hp gh4 ?_
  have gk4 : ∀ q : Nat, q ≠ a → h_4 q = h_3 q := fun q hq => by rw [gh4]; exact hset_ne hq
  have gs4 : h_4 a = some (.inr (2, [.int 0, .int 0, .ref l])) := by rw [gh4]; exact hset_eq
  refine V.run hF [(.aload_n 0, 1, .null), (.iload_n 1, 1, .null)] (pc' := 17) (L' := [some (.ref a), some (.int x)]) (st' := [.int x, .ref a]) (by decide +kernel) rfl ?_
  refine V.putF hG hF ko_RX2_16 hN (by decide +kernel) gs4 (fun C T N hc => by cases hc; exact ⟨rfl, rfl, .int, by decide +kernel, rfl, rfl⟩) (Nat.le_of_ble_eq_true rfl) ?_
  obtain ⟨h_5, gh5⟩ : ∃ z : Hp, z = hset h_4 a (.inr (2, [.int x, .int 0, .ref l])) := ⟨_, rfl⟩
  refine V.hp gh5 ?_
  have gk5 : ∀ q : Nat, q ≠ a → h_5 q = h_4 q := fun q hq => by rw [gh5]; exact hset_ne hq
  have gs5 : h_5 a = some (.inr (2, [.int x, .int 0, .ref l])) := by rw [gh5]; exact hset_eq
  obtain ⟨g1, g2, g3, g4, g5⟩ := hLL
  have up : ∀ q, q ≠ l → h_1 q = none → h q = none := fun q e1 e2 => by rw [← hkl q e1]; exact e2
  exact V.retv hF (by decide +kernel) ⟨rfl, l, d, c, m, w, gs5, ⟨((gk5 l (Ne.symm ne_a_l)).trans ((gk4 l (Ne.symm ne_a_l)))).trans g1, ((gk5 d (Ne.symm na.1)).trans ((gk4 d (Ne.symm na.1)))).trans g2, ((gk5 c (Ne.symm na.2.1)).trans ((gk4 c (Ne.symm na.2.1)))).trans g3, ((gk5 m (Ne.symm na.2.2.1)).trans ((gk4 m (Ne.symm na.2.2.1)))).trans g4, ((gk5 w (Ne.symm na.2.2.2)).trans ((gk4 w (Ne.symm na.2.2.2)))).trans g5⟩, hnd, ⟨hq_l, up d (Ne.symm hll.1.1) f1, up c (Ne.symm hll.1.2.1) f2, up m (Ne.symm hll.1.2.2.1) f3, up w (Ne.symm hll.1.2.2.2) f4⟩, fun q e1 e2 e3 e4 e5 e6 => (((gk5 q e1).trans ((gk4 q e1)))).trans ((hk2 q e2 e3 e4 e5 e6).trans (hkl q e2))⟩
end Tb
/-! the smoothing as numbers -/
def pmin (b : Nat → Int32) : Nat → Nat
  | 0 => 0
  | k + 1 => if b (k + 1) < b (pmin b k) then k + 1 else pmin b k
def pmax (b : Nat → Int32) : Nat → Nat
  | 0 => 0
  | k + 1 => if b (pmax b k) < b (k + 1) then k + 1 else pmax b k
theorem pmin_le (b : Nat → Int32) : ∀ k, pmin b k ≤ k
  | 0 => Nat.le_refl _
  | k + 1 => by
    unfold pmin
    split
    · exact Nat.le_refl _
    · exact Nat.le_succ_of_le (pmin_le b k)
theorem pmax_le (b : Nat → Int32) : ∀ k, pmax b k ≤ k
  | 0 => Nat.le_refl _
  | k + 1 => by
    unfold pmax
    split
    · exact Nat.le_refl _
    · exact Nat.le_succ_of_le (pmax_le b k)
/-- the first person that is there and neither of both, from i on, f persons -/
def wf (th : Nat → Int32) (d c : Nat) : Nat → Nat → Option Nat
  | 0, _ => none
  | f + 1, i => if ¬ th i = 0 ∧ ¬ i = d ∧ ¬ i = c then some i else wf th d c f (i + 1)
def on (r : Option Nat) : Int32 := match r with
  | none => -1
  | some p => nI p
theorem wf_lt {th : Nat → Int32} {d c p : Nat} : ∀ {f i : Nat}, wf th d c f i = some p → p < i + f
  | 0, _, h => by cases h
  | f + 1, i, h => by
    unfold wf at h
    split at h
    · cases h; omega
    · have := wf_lt h; omega
abbrev PS : Type := (Nat → Int32) × (Nat → Int32) × (Nat → Int32) × (Nat → Int32) × (Nat → Int32) × Nat
abbrev pB (s : PS) : Nat → Int32 := s.1
abbrev pD (s : PS) : Nat → Int32 := s.2.1
abbrev pC (s : PS) : Nat → Int32 := s.2.2.1
abbrev pM (s : PS) : Nat → Int32 := s.2.2.2.1
abbrev pW (s : PS) : Nat → Int32 := s.2.2.2.2.1
abbrev pn (s : PS) : Nat := s.2.2.2.2.2
def pamt (b : Nat → Int32) (d c : Nat) : Int32 := if b c < -b d then b c else -b d
def pb2 (b : Nat → Int32) (d c : Nat) : Nat → Int32 := upd (upd b d (b d + pamt b d c)) c (upd b d (b d + pamt b d c) c - pamt b d c)
def pstp (s : PS) (d c w : Nat) : PS := (pb2 (pB s) d c, upd (pD s) (pn s) (nI d), upd (pC s) (pn s) (nI c), upd (pM s) (pn s) (pamt (pB s) d c), upd (pW s) (pn s) (nI w), pn s + 1)
def pl (th : Nat → Int32) : Nat → PS → Bool × PS
  | 0, s => (true, s)
  | f + 1, s => if pB s (pmin (pB s) 7) < 0 then (match wf th (pmin (pB s) 7) (pmax (pB s) 7) 8 0 with
    | none => (false, s)
    | some w => pl th f (pstp s (pmin (pB s) 7) (pmax (pB s) 7) w)) else (true, s)
def SMc (h : Hp) (s ba nl nd nc nm nw : Nat) (P : PS) : Prop := h s = some (.inr (1, [.ref ba, .ref nl])) ∧ h ba = some (.inl (0, 8, .inl (pB P))) ∧ LLc h nl nd nc nm nw (pD P) (pC P) (pM P) (pW P) (pn P)
def kp6 (h h' : Hp) (ba nl nd nc nm nw : Nat) : Prop := ∀ q : Nat, q ≠ ba → q ≠ nl → q ≠ nd → q ≠ nc → q ≠ nm → q ≠ nw → h' q = h q
theorem kp6.rf {h : Hp} {ba nl nd nc nm nw : Nat} : kp6 h h ba nl nd nc nm nw := fun _ _ _ _ _ _ _ => rfl
theorem kp6.tr {h h1 h2 : Hp} {ba nl nd nc nm nw : Nat} (p : kp6 h h1 ba nl nd nc nm nw) (q : kp6 h1 h2 ba nl nd nc nm nw) : kp6 h h2 ba nl nd nc nm nw := fun x e1 e2 e3 e4 e5 e6 => (q x e1 e2 e3 e4 e5 e6).trans (p x e1 e2 e3 e4 e5 e6)
section Sm
variable {G : Gt} {h : Hp} {s ba nl nd nc nm nw t : Nat} {b th : Nat → Int32} {P : PS}
set_option maxHeartbeats 4000000 in
theorem c_X1_poorest (hG : GOk G) (hA : h s = some (.inr (1, [.ref ba, .ref nl]))) (hb : h ba = some (.inl (0, 8, .inl b))) :
    Ct G yX1_poorest (.code yX1_poorest cX1_poorest 3 (some .int)) 0 0 0 0 [.ref s] h (is_i (nI (pmin b 7)) h) pxN := by
  refine Ct.of (by decide +kernel) (Nat.le_of_ble_eq_true rfl) fun F hF hT hN hRm => ?_
  have loop : ∀ i, i ≤ 7 → V G F (fin G F (is_i (nI (pmin b 7)) h) pxN) 0 0 4 [some (.ref s), some (.int (nI (pmin b i))), some (.int (nI (i + 1)))] [] h := by
    refine lp_up 7 fun i hi ih => ?_
    have hm := pmin_le b i
    refine V.run hF [(.iload_n 2, 1, .null), (.bipush 8, 2, .int (nI 8))] (pc' := 7) (L' := [some (.ref s), some (.int (nI (pmin b i))), some (.int (nI (i + 1)))]) (st' := [.int (nI 8), .int (nI (i + 1))]) (by decide +kernel) rfl ?_
    refine V.icmpN_ge (i := i + 1) (j := 8) hF (off := 26) (tgt := 33) (by decide +kernel) (by decide) (by omega) (by omega) (fun c1 => ?_) (fun c1 => ?_)
    · have ei : i = 7 := by omega
      refine V.run hF [(.iload_n 1, 1, .null)] (pc' := 34) (L' := [some (.ref s), some (.int (nI (pmin b i))), some (.int (nI (i + 1)))]) (st' := [.int (nI (pmin b i))]) (by decide +kernel) rfl ?_
      exact V.reti hF (by decide +kernel) ⟨by rw [ei], rfl⟩
    · skip
      refine V.run hF [(.aload_n 0, 1, .null)] (pc' := 11) (L' := [some (.ref s), some (.int (nI (pmin b i))), some (.int (nI (i + 1)))]) (st' := [.ref s]) (by decide +kernel) rfl ?_
      refine V.getf hG hF k_RX1_9 (by decide +kernel) hA rfl ?_
      refine V.run hF [(.iload_n 2, 1, .null)] (pc' := 15) (L' := [some (.ref s), some (.int (nI (pmin b i))), some (.int (nI (i + 1)))]) (st' := [.int (nI (i + 1)), .ref ba]) (by decide +kernel) rfl ?_
      refine V.ialdN (j := i + 1) hG hF (by decide +kernel) hb (by omega) (by decide) ?_
      refine V.run hF [(.aload_n 0, 1, .null)] (pc' := 17) (L' := [some (.ref s), some (.int (nI (pmin b i))), some (.int (nI (i + 1)))]) (st' := [.ref s, .int (b (i + 1))]) (by decide +kernel) rfl ?_
      refine V.getf hG hF k_RX1_9 (by decide +kernel) hA rfl ?_
      refine V.run hF [(.iload_n 1, 1, .null)] (pc' := 21) (L' := [some (.ref s), some (.int (nI (pmin b i))), some (.int (nI (i + 1)))]) (st' := [.int (nI (pmin b i)), .ref ba, .int (b (i + 1))]) (by decide +kernel) rfl ?_
      refine V.ialdN (j := pmin b i) hG hF (by decide +kernel) hb (by omega) (by decide) ?_
      refine V.icmp_ge hF (off := 5) (tgt := 27) (by decide +kernel) (by decide) (fun c2 => ?_) (fun c2 => ?_)
      · skip
        refine V.run hF [(.iinc 2 1, 3, .int 1), (.goto (-26), 3, .null)] (pc' := 4) (L' := [some (.ref s), some (.int (nI (pmin b i))), some (.int ((nI (i + 1)) + 1))]) (st' := []) (by decide +kernel) rfl ?_
        rw [nI_1 (i + 1)]
        rw [show pmin b i = pmin b (i + 1) by rw [pmin, if_neg (Int32.not_lt.mpr c2)]]
        exact ih (by omega)
      · skip
        refine V.run hF [(.iload_n 2, 1, .null), (.istore_n 1, 1, .null), (.iinc 2 1, 3, .int 1), (.goto (-26), 3, .null)] (pc' := 4) (L' := [some (.ref s), some (.int (nI (i + 1))), some (.int ((nI (i + 1)) + 1))]) (st' := []) (by decide +kernel) rfl ?_
        rw [nI_1 (i + 1)]
        have e : i + 1 = pmin b (i + 1) := by rw [pmin, if_pos (Int32.not_le.mp c2)]
        have := ih (by omega)
        rw [← e] at this
        exact this
  refine V.run hF [(.iconst 0, 1, .int 0), (.istore_n 1, 1, .null), (.iconst 1, 1, .int 1), (.istore_n 2, 1, .null)] (pc' := 4) (L' := [some (.ref s), some (.int 0), some (.int 1)]) (st' := []) (by decide +kernel) rfl ?_
  exact loop 0 (Nat.zero_le _)
set_option maxHeartbeats 4000000 in
theorem c_X1_wealthiest (hG : GOk G) (hA : h s = some (.inr (1, [.ref ba, .ref nl]))) (hb : h ba = some (.inl (0, 8, .inl b))) :
    Ct G yX1_wealthiest (.code yX1_wealthiest cX1_wealthiest 3 (some .int)) 0 0 0 0 [.ref s] h (is_i (nI (pmax b 7)) h) pxN := by
  refine Ct.of (by decide +kernel) (Nat.le_of_ble_eq_true rfl) fun F hF hT hN hRm => ?_
  have loop : ∀ i, i ≤ 7 → V G F (fin G F (is_i (nI (pmax b 7)) h) pxN) 0 0 4 [some (.ref s), some (.int (nI (pmax b i))), some (.int (nI (i + 1)))] [] h := by
    refine lp_up 7 fun i hi ih => ?_
    have hm := pmax_le b i
    refine V.run hF [(.iload_n 2, 1, .null), (.bipush 8, 2, .int (nI 8))] (pc' := 7) (L' := [some (.ref s), some (.int (nI (pmax b i))), some (.int (nI (i + 1)))]) (st' := [.int (nI 8), .int (nI (i + 1))]) (by decide +kernel) rfl ?_
    refine V.icmpN_ge (i := i + 1) (j := 8) hF (off := 26) (tgt := 33) (by decide +kernel) (by decide) (by omega) (by omega) (fun c1 => ?_) (fun c1 => ?_)
    · have ei : i = 7 := by omega
      refine V.run hF [(.iload_n 1, 1, .null)] (pc' := 34) (L' := [some (.ref s), some (.int (nI (pmax b i))), some (.int (nI (i + 1)))]) (st' := [.int (nI (pmax b i))]) (by decide +kernel) rfl ?_
      exact V.reti hF (by decide +kernel) ⟨by rw [ei], rfl⟩
    · skip
      refine V.run hF [(.aload_n 0, 1, .null)] (pc' := 11) (L' := [some (.ref s), some (.int (nI (pmax b i))), some (.int (nI (i + 1)))]) (st' := [.ref s]) (by decide +kernel) rfl ?_
      refine V.getf hG hF k_RX1_9 (by decide +kernel) hA rfl ?_
      refine V.run hF [(.iload_n 2, 1, .null)] (pc' := 15) (L' := [some (.ref s), some (.int (nI (pmax b i))), some (.int (nI (i + 1)))]) (st' := [.int (nI (i + 1)), .ref ba]) (by decide +kernel) rfl ?_
      refine V.ialdN (j := i + 1) hG hF (by decide +kernel) hb (by omega) (by decide) ?_
      refine V.run hF [(.aload_n 0, 1, .null)] (pc' := 17) (L' := [some (.ref s), some (.int (nI (pmax b i))), some (.int (nI (i + 1)))]) (st' := [.ref s, .int (b (i + 1))]) (by decide +kernel) rfl ?_
      refine V.getf hG hF k_RX1_9 (by decide +kernel) hA rfl ?_
      refine V.run hF [(.iload_n 1, 1, .null)] (pc' := 21) (L' := [some (.ref s), some (.int (nI (pmax b i))), some (.int (nI (i + 1)))]) (st' := [.int (nI (pmax b i)), .ref ba, .int (b (i + 1))]) (by decide +kernel) rfl ?_
      refine V.ialdN (j := pmax b i) hG hF (by decide +kernel) hb (by omega) (by decide) ?_
      refine V.icmp_le hF (off := 5) (tgt := 27) (by decide +kernel) (by decide) (fun c2 => ?_) (fun c2 => ?_)
      · skip
        refine V.run hF [(.iinc 2 1, 3, .int 1), (.goto (-26), 3, .null)] (pc' := 4) (L' := [some (.ref s), some (.int (nI (pmax b i))), some (.int ((nI (i + 1)) + 1))]) (st' := []) (by decide +kernel) rfl ?_
        rw [nI_1 (i + 1)]
        rw [show pmax b i = pmax b (i + 1) by rw [pmax, if_neg (Int32.not_lt.mpr c2)]]
        exact ih (by omega)
      · skip
        refine V.run hF [(.iload_n 2, 1, .null), (.istore_n 1, 1, .null), (.iinc 2 1, 3, .int 1), (.goto (-26), 3, .null)] (pc' := 4) (L' := [some (.ref s), some (.int (nI (i + 1))), some (.int ((nI (i + 1)) + 1))]) (st' := []) (by decide +kernel) rfl ?_
        rw [nI_1 (i + 1)]
        have e : i + 1 = pmax b (i + 1) := by rw [pmax, if_pos (Int32.not_le.mp c2)]
        have := ih (by omega)
        rw [← e] at this
        exact this
  refine V.run hF [(.iconst 0, 1, .int 0), (.istore_n 1, 1, .null), (.iconst 1, 1, .int 1), (.istore_n 2, 1, .null)] (pc' := 4) (L' := [some (.ref s), some (.int 0), some (.int 1)]) (st' := []) (by decide +kernel) rfl ?_
  exact loop 0 (Nat.zero_le _)
set_option maxHeartbeats 4000000 in
theorem c_X1_witnessFor (hG : GOk G) (ht : h t = some (.inl (1, 8, .inl th))) {d c : Nat} (hd : d < 8) (hc : c < 8) :
    Ct G yX1_witnessFor (.code yX1_witnessFor cX1_witnessFor 4 (some .int)) 0 0 0 0 [.int (nI d), .int (nI c), .ref t] h (is_i (on (wf th d c 8 0)) h) pxN := by
  refine Ct.of (by decide +kernel) (Nat.le_of_ble_eq_true rfl) fun F hF hT hN hRm => ?_
  have loop : ∀ i, i ≤ 8 → V G F (fin G F (is_i (on (wf th d c (8 - i) i)) h) pxN) 0 0 2 [some (.int (nI d)), some (.int (nI c)), some (.ref t), some (.int (nI i))] [] h := by
    refine lp_up 8 fun i hi ih => ?_
    refine V.run hF [(.iload_n 3, 1, .null), (.aload_n 2, 1, .null)] (pc' := 4) (L' := [some (.int (nI d)), some (.int (nI c)), some (.ref t), some (.int (nI i))]) (st' := [.ref t, .int (nI i)]) (by decide +kernel) rfl ?_
    refine V.alen hG hF (by decide +kernel) (by decide) ht ?_
    show V G F _ _ _ 5 [some (.int (nI d)), some (.int (nI c)), some (.ref t), some (.int (nI i))] [.int (nI 8), .int (nI i)] h
    refine V.icmpN_ge (i := i) (j := 8) hF (off := 27) (tgt := 32) (by decide +kernel) (by decide) (by omega) (by omega) (fun c1 => ?_) (fun c1 => ?_)
    · have ei : i = 8 := by omega
      refine V.run hF [(.iconst (-1), 1, .int (-1))] (pc' := 33) (L' := [some (.int (nI d)), some (.int (nI c)), some (.ref t), some (.int (nI i))]) (st' := [.int (-1)]) (by decide +kernel) rfl ?_
      exact V.reti hF (by decide +kernel) ⟨by rw [ei]; rfl, rfl⟩
    · skip
      have e8 : 8 - i = (8 - (i + 1)) + 1 := by omega
      have nx : ¬ (¬ th i = 0 ∧ ¬ i = d ∧ ¬ i = c) → wf th d c (8 - i) i = wf th d c (8 - (i + 1)) (i + 1) := fun q => by rw [e8, wf, if_neg q]
      refine V.run hF [(.aload_n 2, 1, .null), (.iload_n 3, 1, .null)] (pc' := 10) (L' := [some (.int (nI d)), some (.int (nI c)), some (.ref t), some (.int (nI i))]) (st' := [.int (nI i), .ref t]) (by decide +kernel) rfl ?_
      refine V.zaldN (j := i) hG hF (by decide +kernel) ht (by omega) (by decide) ?_
      refine V.if_eq hF (off := 15) (tgt := 26) (by decide +kernel) (by decide) (fun c2 => ?_) (fun c2 => ?_)
      · skip
        refine V.run hF [(.iinc 3 1, 3, .int 1), (.goto (-27), 3, .null)] (pc' := 2) (L' := [some (.int (nI d)), some (.int (nI c)), some (.ref t), some (.int ((nI i) + 1))]) (st' := []) (by decide +kernel) rfl ?_
        rw [nI_1 i]
        rw [nx (fun q => q.1 c2)]
        exact ih c1
      · skip
        refine V.run hF [(.iload_n 3, 1, .null), (.iload_n 0, 1, .null)] (pc' := 16) (L' := [some (.int (nI d)), some (.int (nI c)), some (.ref t), some (.int (nI i))]) (st' := [.int (nI d), .int (nI i)]) (by decide +kernel) rfl ?_
        refine V.icmpN_eq (i := i) (j := d) hF (off := 10) (tgt := 26) (by decide +kernel) (by decide) (by omega) (by omega) (fun c3 => ?_) (fun c3 => ?_)
        · skip
          refine V.run hF [(.iinc 3 1, 3, .int 1), (.goto (-27), 3, .null)] (pc' := 2) (L' := [some (.int (nI d)), some (.int (nI c)), some (.ref t), some (.int ((nI i) + 1))]) (st' := []) (by decide +kernel) rfl ?_
          rw [nI_1 i]
          rw [nx (fun q => q.2.1 c3)]
          exact ih c1
        · skip
          refine V.run hF [(.iload_n 3, 1, .null), (.iload_n 1, 1, .null)] (pc' := 21) (L' := [some (.int (nI d)), some (.int (nI c)), some (.ref t), some (.int (nI i))]) (st' := [.int (nI c), .int (nI i)]) (by decide +kernel) rfl ?_
          refine V.icmpN_eq (i := i) (j := c) hF (off := 5) (tgt := 26) (by decide +kernel) (by decide) (by omega) (by omega) (fun c4 => ?_) (fun c4 => ?_)
          · skip
            refine V.run hF [(.iinc 3 1, 3, .int 1), (.goto (-27), 3, .null)] (pc' := 2) (L' := [some (.int (nI d)), some (.int (nI c)), some (.ref t), some (.int ((nI i) + 1))]) (st' := []) (by decide +kernel) rfl ?_
            rw [nI_1 i]
            rw [nx (fun q => q.2.2 c4)]
            exact ih c1
          · skip
            refine V.run hF [(.iload_n 3, 1, .null)] (pc' := 25) (L' := [some (.int (nI d)), some (.int (nI c)), some (.ref t), some (.int (nI i))]) (st' := [.int (nI i)]) (by decide +kernel) rfl ?_
            exact V.reti hF (by decide +kernel) ⟨by rw [e8, wf, if_pos ⟨c2, c3, c4⟩]; rfl, rfl⟩
  refine V.run hF [(.iconst 0, 1, .int 0), (.istore_n 3, 1, .null)] (pc' := 2) (L' := [some (.int (nI d)), some (.int (nI c)), some (.ref t), some (.int 0)]) (st' := []) (by decide +kernel) rfl ?_
  exact loop 0 (Nat.zero_le _)
end Sm
