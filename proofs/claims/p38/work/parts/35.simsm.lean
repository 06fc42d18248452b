/-! ===== TallyWaxLaw$Sim.smooth: the same plan as the class's ===== -/
theorem pl_done {th : Nat → Int32} {f : Nat} {s : PS} (h : ¬ pB s (pmin (pB s) 7) < 0) : pl th f s = (true, s) := by
  cases f with
  | zero => rfl
  | succ f => exact pl_neg h
theorem nI_m1 (j : Nat) : nI (j + 1) + (-1) = nI j := by
  rw [← nI_1 j, Int32.add_assoc, show (1 : Int32) + (-1) = 0 from by decide +kernel, Int32.add_zero]
theorem wf_y {th : Nat → Int32} {d c f i : Nat} (h : ¬ th i = 0 ∧ ¬ i = d ∧ ¬ i = c) : wf th d c (f + 1) i = some i := if_pos h
theorem wf_n {th : Nat → Int32} {d c f i : Nat} (h : ¬ (¬ th i = 0 ∧ ¬ i = d ∧ ¬ i = c)) : wf th d c (f + 1) i = wf th d c f (i + 1) := if_neg h
def z0 (b : Nat → Int32) : PS := (b, fun _ => 0, fun _ => 0, fun _ => 0, fun _ => 0, 0)
/-- what smoothing answers: null, or an array of new rows -/
def smQ (h : Hp) (r : Bool × PS) : Option Value → Hp → Prop := fun v h' => Ex h h' ∧ ((r.1 = false ∧ v = some .null) ∨ (r.1 = true ∧ ∃ a R, v = some (.ref a) ∧ h a = none ∧ (∀ j, j < pn r.2 → h (R j) = none) ∧ (∀ i j, i < pn r.2 → j < pn r.2 → R i = R j → i = j) ∧ Rows h' a (pn r.2) R (pD r.2) (pC r.2) (pM r.2) (pW r.2)))
theorem smQ.ag {h : Hp} {r r' : Bool × PS} (e : r.1 = r'.1 ∧ agP r.2 r'.2) {v : Option Value} {h' : Hp} (q : smQ h r v h') : smQ h r' v h' := by
  obtain ⟨e1, e2, e3, e4⟩ := e
  refine ⟨q.1, q.2.imp (fun z => ⟨by rw [← e1]; exact z.1, z.2⟩) (fun z => ?_)⟩
  obtain ⟨z1, a, R, z2, z3, z4, z5, z6⟩ := z
  rw [← e3, ← e1]
  exact ⟨z1, a, R, z2, z3, z4, z5, z6.cg fun j hj => e4 j hj⟩
theorem Ex.none {h h' : Hp} (e : Ex h h') {x : Nat} (hx : h' x = none) : h x = none := by
  cases hc : h x with
  | none => rfl
  | some c =>
    rw [e x c hc] at hx
    cases hx
abbrev smL (G : Gt) (F : Ft) (h : Hp) (o t q : Nat) (f0 : Nat → Int32) (f : Nat) : Prop := ∀ (S : Int) (s : PS) (hh : Hp) (md : Nat) (R : Nat → Nat) (L4 L5 L6 L7 : Option Value), okB S (pB s) → S ≤ 1073741824 → sI (fun q => nzI (pB s q).toInt) 8 ≤ f → pn s + f ≤ 8 → hh q = some (.inl (0, 8, .inl (pB s))) → Rows hh md (pn s) R (pD s) (pC s) (pM s) (pW s) → Ex h hh → h md = none → (∀ j, j < pn s → h (R j) = none) → (∀ i j, i < pn s → j < pn s → R i = R j → i = j) →
      V G F (fin G F (smQ h (pl f0 f s)) pxN) (2 * f) (20 * f) 15 [some (.ref o), some (.int (nI t)), some (.ref q), some (.ref md), L4, L5, L6, L7] [] hh
theorem pam_a {b : Nat → Int32} {d c : Nat} (h : b c ≤ -b d) : b c = pamt b d c := by
  unfold pamt
  split
  · rfl
  · next q =>
    rw [Int32.le_iff_toInt_le] at h
    rw [Int32.lt_iff_toInt_lt] at q
    exact Int32.toInt_inj.mp (by omega)
theorem pam_b {b : Nat → Int32} {d c : Nat} (h : ¬ b c ≤ -b d) : -b d = pamt b d c := by
  unfold pamt
  rw [if_neg fun q => h (Int32.le_of_lt q)]
theorem l8 {a0 a1 a2 a3 a4 a5 a6 a7 : Option Value} : ∀ (i : Nat) (v : Value), [a0, a1, a2, a3, none, none, none, none][i]? = some (some v) → [a0, a1, a2, a3, a4, a5, a6, a7][i]? = some (some v) := fun j v hv => by
  match j, hv with
  | 0, hv => exact hv
  | 1, hv => exact hv
  | 2, hv => exact hv
  | 3, hv => exact hv
  | 4, hv => cases hv
  | 5, hv => cases hv
  | 6, hv => cases hv
  | 7, hv => cases hv
  | q + 8, hv => cases hv
section Ss
variable {G : Gt} {h : Hp}
set_option maxHeartbeats 8000000 in
theorem c_X4_smooth (hG : GOk G) {o th he ta li a t n : Nat} {y me de : Int32} {f0 : Nat → Int32} {g : Nat → Option Nat} {R : Nat → Nat} {D C M W : Nat → Int32} {S : Int} (hO : h o = some (.inr (4, [.ref th, .ref he, .ref ta, .ref li, .int y, .int me, .int de]))) (hth : h th = some (.inl (1, 8, .inl f0))) (hli : h li = some (.inl (4, 8, .inr (.inr (.inr (.inr g))))))
    (ht : t < 8) (hg : g t = some a) (hR : Rows h a n R D C M W) (hn : n ≤ 12) (hp : ∀ j, j < n → inP (D j) ∧ inP (C j) ∧ D j ≠ C j) (hB : okB S (balN D C M n)) (hS : S ≤ 1073741824) :
    Ct G yX4_smooth (.code yX4_smooth cX4_smooth 8 (some (.array (.array .int)))) 1 25 18 168 [.ref o, .int (nI t)] h (smQ h (pl f0 8 (z0 (balN D C M n)))) pxN := by
  refine Ct.of (by decide +kernel) (Nat.le_of_ble_eq_true rfl) fun F hF hT hN hRm => ?_
  refine V.run hF [(.aload_n 0, 1, .null)] (pc' := 1) (L' := [some (.ref o), some (.int (nI t)), none, none, none, none, none, none]) (st' := [.ref o]) (by decide +kernel) rfl ?_
  refine V.getf hG hF k_RX4_24 (by decide +kernel) hO rfl ?_
  refine V.run hF [(.iload_n 1, 1, .null)] (pc' := 5) (L' := [some (.ref o), some (.int (nI t)), none, none, none, none, none, none]) (st' := [.int (nI t), .ref li]) (by decide +kernel) rfl ?_
  refine V.aaldS (j := t) (b := a) hG hF (by decide +kernel) hli (by omega) (by first | decide | omega) hg ?_
  refine V.less (kc' := 17 + 1) (ks' := 160 + 8) (by decide) (by decide) ?_
  refine V.callS (As := [.ref a]) (st := []) hG hF k_RX4_27 (by decide +kernel) (c_X4_has hG hR hn hp) rfl ⟨by rw [hRm]; decide, by rw [hRm]; decide⟩ (Nat.le_of_ble_eq_true rfl) rfl (fun v h1 hq1 => ?_) (fun E h9 hx => hx.elim)
  obtain ⟨q, ff, hv, q1, q2, q3, q4⟩ := hq1
  rw [hv]
  have x1 : Ex h h1 := Ex.new q1 q4
  show V G F _ _ _ 9 [some (.ref o), some (.int (nI t)), none, none, none, none, none, none] [.ref q] h1
  refine V.run hF [(.astore_n 2, 1, .null), (.iconst 0, 1, .int (nI 0))] (pc' := 11) (L' := [some (.ref o), some (.int (nI t)), some (.ref q), none, none, none, none, none]) (st' := [.int (nI 0)]) (by decide +kernel) rfl ?_
  refine V.less (kc' := 16 + 1) (ks' := 160 + 0) (by decide) (by decide) ?_
  refine V.newA (N := 0) hG hF tw_405.1 (by decide +kernel) (by omega) (fun md0 hq_md0 => ?_)
  have ne_o_md0 : o ≠ md0 := ne_new (x1 _ _ hO) hq_md0
  have ne_th_md0 : th ≠ md0 := ne_new (x1 _ _ hth) hq_md0
  have ne_q_md0 : q ≠ md0 := ne_new q2 hq_md0
  obtain ⟨h_2, gh2⟩ : ∃ z : Hp, z = hset h1 md0 (.inl (2, 0, .inr (.inr (.inr (.inr (fun _ => none)))))) := ⟨_, rfl⟩
  refine V.hp gh2 ?_
  have gk2 : ∀ zq : Nat, zq ≠ md0 → h_2 zq = h1 zq := fun zq hq => by rw [gh2]; exact hset_ne hq
  have gs2 : h_2 md0 = some (.inl (2, 0, .inr (.inr (.inr (.inr (fun _ => none)))))) := by rw [gh2]; exact hset_eq
  have x2 : Ex h h_2 := x1.tr (Ex.new hq_md0 (fun x hx => gk2 x hx))
  have hq0 : h_2 q = some (.inl (0, 8, .inl ff)) := (gk2 q ne_q_md0).trans q2
  have hm0 : h_2 md0 = some (.inl (2, 0, .inr (.inr (.inr (.inr (fun _ => none)))))) := gs2
  have loop : ∀ f, smL G F h o t q f0 f := by
    have step : ∀ f, (∀ f', f = f' + 1 → smL G F h o t q f0 f') → smL G F h o t q f0 f := by
      intro f ihf S s hh md R L4 L5 L6 L7 k1 k2 k3 k4 k5 k6 k7 k8 k9 k10
      refine V.loc l8 ?_
      have d8 : pmin (pB s) 7 < 8 := by
        have := pmin_le (pB s) 7
        omega
      have c8 : pmax (pB s) 7 < 8 := by
        have := pmax_le (pB s) 7
        omega
      -- what follows the scan
      have after : ∀ L6 L7 : Option Value, V G F (fin G F (smQ h (pl f0 f s)) pxN) (2 * f) (20 * f) 68 [some (.ref o), some (.int (nI t)), some (.ref q), some (.ref md), some (.int (nI (pmin (pB s) 7))), some (.int (nI (pmax (pB s) 7))), L6, L7] [] hh := by
        intro L6 L7
        refine V.loc (L' := [some (.ref o), some (.int (nI t)), some (.ref q), some (.ref md), some (.int (nI (pmin (pB s) 7))), some (.int (nI (pmax (pB s) 7))), none, none]) (fun j v hv => by
          match j, hv with
          | 0, hv => exact hv
          | 1, hv => exact hv
          | 2, hv => exact hv
          | 3, hv => exact hv
          | 4, hv => exact hv
          | 5, hv => exact hv
          | 6, hv => cases hv
          | 7, hv => cases hv
          | q + 8, hv => cases hv) ?_
        refine V.run hF [(.aload_n 2, 1, .null), (.iload 4, 2, .null)] (pc' := 71) (L' := [some (.ref o), some (.int (nI t)), some (.ref q), some (.ref md), some (.int (nI (pmin (pB s) 7))), some (.int (nI (pmax (pB s) 7))), none, none]) (st' := [.int (nI (pmin (pB s) 7)), .ref q]) (by decide +kernel) rfl ?_
        refine V.ialdN (j := pmin (pB s) 7) hG hF (by decide +kernel) k5 (by omega) (by first | decide | omega) ?_
        refine V.if_ne hF (off := 5) (tgt := 77) (by decide +kernel) (by decide) (fun c1 => ?_) (fun c1 => ?_)
        · have hneg : pB s (pmin (pB s) 7) < 0 := Classical.byContradiction fun z => c1 (k1.zero z _ d8)
          obtain ⟨f', rfl⟩ : ∃ f', f = f' + 1 := ⟨f - 1, by
            have : f ≠ 0 := fun z => by
              rw [z] at k3
              exact k1.zeros k3 hneg
            omega⟩
          obtain ⟨hdc, hap, hB', hnz⟩ := k1.st k2 hneg
          -- from 126 on: a witness is found
          have made : ∀ w, w < 8 → wf f0 (pmin (pB s) 7) (pmax (pB s) 7) 8 0 = some w → V G F (fin G F (smQ h (pl f0 (f' + 1) s)) pxN) (2 * (f' + 1)) (20 * (f' + 1)) 126 [some (.ref o), some (.int (nI t)), some (.ref q), some (.ref md), some (.int (nI (pmin (pB s) 7))), some (.int (nI (pmax (pB s) 7))), some (.int (nI w)), none] [] hh := by
            intro w hw hwf
            rw [pl_some hneg hwf]
            have rest : V G F (fin G F (smQ h (pl f0 f' (pstp s (pmin (pB s) 7) (pmax (pB s) 7) w))) pxN) (2 * (f' + 1)) (20 * (f' + 1)) 150 [some (.ref o), some (.int (nI t)), some (.ref q), some (.ref md), some (.int (nI (pmin (pB s) 7))), some (.int (nI (pmax (pB s) 7))), some (.int (nI w)), none] [.int (pamt (pB s) (pmin (pB s) 7) (pmax (pB s) 7))] hh := by
              refine V.run hF [(.istore 7, 2, .null), (.aload_n 3, 1, .null), (.iconst 4, 1, .int (nI 4))] (pc' := 154) (L' := [some (.ref o), some (.int (nI t)), some (.ref q), some (.ref md), some (.int (nI (pmin (pB s) 7))), some (.int (nI (pmax (pB s) 7))), some (.int (nI w)), some (.int (pamt (pB s) (pmin (pB s) 7) (pmax (pB s) 7)))]) (st' := [.int (nI 4), .ref md]) (by decide +kernel) rfl ?_
              refine V.less (kc' := (2 * f' + 1) + 1) (ks' := (20 * f' + 13) + 4) (by omega) (by omega) ?_
              refine V.newa (aty := .int) (t := 0) (N := 4) (a0 := (4, .inl (fun _ => 0))) hG hF (by decide) rfl tw_arr_0.1 (by decide +kernel) (by decide) (by decide) (by decide) (fun _ => rfl) (fun w0 hq_w0 => ?_)
              have ne_o_w0 : o ≠ w0 := ne_new (k7 _ _ hO) hq_w0
              have ne_th_w0 : th ≠ w0 := ne_new (k7 _ _ hth) hq_w0
              have ne_q_w0 : q ≠ w0 := ne_new k5 hq_w0
              obtain ⟨h_3, gh3⟩ : ∃ z : Hp, z = hset hh w0 (.inl (0, 4, .inl (fun _ => 0))) := ⟨_, rfl⟩
              refine V.hp gh3 ?_
              have gk3 : ∀ zq : Nat, zq ≠ w0 → h_3 zq = hh zq := fun zq hq => by rw [gh3]; exact hset_ne hq
              have gs3 : h_3 w0 = some (.inl (0, 4, .inl (fun _ => 0))) := by rw [gh3]; exact hset_eq
              obtain ⟨⟨g3, m1, m2⟩, m3⟩ := id k6
              have nmd : md ≠ w0 := ne_new m1 hq_w0
              have xw : Ex hh h_3 := Ex.new hq_w0 (fun x hx => gk3 x hx)
              refine V.run hF [(.dup, 1, .null), (.iconst 0, 1, .int (nI 0)), (.iload 4, 2, .null)] (pc' := 160) (L' := [some (.ref o), some (.int (nI t)), some (.ref q), some (.ref md), some (.int (nI (pmin (pB s) 7))), some (.int (nI (pmax (pB s) 7))), some (.int (nI w)), some (.int (pamt (pB s) (pmin (pB s) 7) (pmax (pB s) 7)))]) (st' := [.int (nI (pmin (pB s) 7)), .int (nI 0), .ref w0, .ref w0, .ref md]) (by decide +kernel) rfl ?_
              refine V.iastN (j := 0) hG hF (by decide +kernel) gs3 (by omega) (by first | decide | omega) ?_
              obtain ⟨h_4, gh4⟩ : ∃ z : Hp, z = hset h_3 w0 (.inl (0, 4, .inl (upd (fun _ => 0) 0 (nI (pmin (pB s) 7))))) := ⟨_, rfl⟩
              refine V.hp gh4 ?_
              have gk4 : ∀ zq : Nat, zq ≠ w0 → h_4 zq = h_3 zq := fun zq hq => by rw [gh4]; exact hset_ne hq
              have gs4 : h_4 w0 = some (.inl (0, 4, .inl (upd (fun _ => 0) 0 (nI (pmin (pB s) 7))))) := by rw [gh4]; exact hset_eq
              refine V.run hF [(.dup, 1, .null), (.iconst 1, 1, .int (nI 1)), (.iload 5, 2, .null)] (pc' := 165) (L' := [some (.ref o), some (.int (nI t)), some (.ref q), some (.ref md), some (.int (nI (pmin (pB s) 7))), some (.int (nI (pmax (pB s) 7))), some (.int (nI w)), some (.int (pamt (pB s) (pmin (pB s) 7) (pmax (pB s) 7)))]) (st' := [.int (nI (pmax (pB s) 7)), .int (nI 1), .ref w0, .ref w0, .ref md]) (by decide +kernel) rfl ?_
              refine V.iastN (j := 1) hG hF (by decide +kernel) gs4 (by omega) (by first | decide | omega) ?_
              obtain ⟨h_5, gh5⟩ : ∃ z : Hp, z = hset h_4 w0 (.inl (0, 4, .inl (upd (upd (fun _ => 0) 0 (nI (pmin (pB s) 7))) 1 (nI (pmax (pB s) 7))))) := ⟨_, rfl⟩
              refine V.hp gh5 ?_
              have gk5 : ∀ zq : Nat, zq ≠ w0 → h_5 zq = h_4 zq := fun zq hq => by rw [gh5]; exact hset_ne hq
              have gs5 : h_5 w0 = some (.inl (0, 4, .inl (upd (upd (fun _ => 0) 0 (nI (pmin (pB s) 7))) 1 (nI (pmax (pB s) 7))))) := by rw [gh5]; exact hset_eq
              refine V.run hF [(.dup, 1, .null), (.iconst 2, 1, .int (nI 2)), (.iload 7, 2, .null)] (pc' := 170) (L' := [some (.ref o), some (.int (nI t)), some (.ref q), some (.ref md), some (.int (nI (pmin (pB s) 7))), some (.int (nI (pmax (pB s) 7))), some (.int (nI w)), some (.int (pamt (pB s) (pmin (pB s) 7) (pmax (pB s) 7)))]) (st' := [.int (pamt (pB s) (pmin (pB s) 7) (pmax (pB s) 7)), .int (nI 2), .ref w0, .ref w0, .ref md]) (by decide +kernel) rfl ?_
              refine V.iastN (j := 2) hG hF (by decide +kernel) gs5 (by omega) (by first | decide | omega) ?_
              obtain ⟨h_6, gh6⟩ : ∃ z : Hp, z = hset h_5 w0 (.inl (0, 4, .inl (upd (upd (upd (fun _ => 0) 0 (nI (pmin (pB s) 7))) 1 (nI (pmax (pB s) 7))) 2 (pamt (pB s) (pmin (pB s) 7) (pmax (pB s) 7))))) := ⟨_, rfl⟩
              refine V.hp gh6 ?_
              have gk6 : ∀ zq : Nat, zq ≠ w0 → h_6 zq = h_5 zq := fun zq hq => by rw [gh6]; exact hset_ne hq
              have gs6 : h_6 w0 = some (.inl (0, 4, .inl (upd (upd (upd (fun _ => 0) 0 (nI (pmin (pB s) 7))) 1 (nI (pmax (pB s) 7))) 2 (pamt (pB s) (pmin (pB s) 7) (pmax (pB s) 7))))) := by rw [gh6]; exact hset_eq
              refine V.run hF [(.dup, 1, .null), (.iconst 3, 1, .int (nI 3)), (.iload 6, 2, .null)] (pc' := 175) (L' := [some (.ref o), some (.int (nI t)), some (.ref q), some (.ref md), some (.int (nI (pmin (pB s) 7))), some (.int (nI (pmax (pB s) 7))), some (.int (nI w)), some (.int (pamt (pB s) (pmin (pB s) 7) (pmax (pB s) 7)))]) (st' := [.int (nI w), .int (nI 3), .ref w0, .ref w0, .ref md]) (by decide +kernel) rfl ?_
              refine V.iastN (j := 3) hG hF (by decide +kernel) gs6 (by omega) (by first | decide | omega) ?_
              obtain ⟨h_7, gh7⟩ : ∃ z : Hp, z = hset h_6 w0 (.inl (0, 4, .inl (upd (upd (upd (upd (fun _ => 0) 0 (nI (pmin (pB s) 7))) 1 (nI (pmax (pB s) 7))) 2 (pamt (pB s) (pmin (pB s) 7) (pmax (pB s) 7))) 3 (nI w)))) := ⟨_, rfl⟩
              refine V.hp gh7 ?_
              have gk7 : ∀ zq : Nat, zq ≠ w0 → h_7 zq = h_6 zq := fun zq hq => by rw [gh7]; exact hset_ne hq
              have gs7 : h_7 w0 = some (.inl (0, 4, .inl (upd (upd (upd (upd (fun _ => 0) 0 (nI (pmin (pB s) 7))) 1 (nI (pmax (pB s) 7))) 2 (pamt (pB s) (pmin (pB s) 7) (pmax (pB s) 7))) 3 (nI w)))) := by rw [gh7]; exact hset_eq
              have xw2 : Ex hh h_7 := fun x c hc => (gk7 x (ne_new hc hq_w0)).trans ((gk6 x (ne_new hc hq_w0)).trans ((gk5 x (ne_new hc hq_w0)).trans ((gk4 x (ne_new hc hq_w0)).trans (xw x c hc))))
              have hw0 := gs7
              refine V.callS (As := [.ref md, .ref w0]) (st := []) hG hF k_RX4_31 (by decide +kernel) (c_X4_with (a := md) (n := pn s) (b := w0) hG (xw2 _ _ m1) (fun j hj => by obtain ⟨fr, r1, -⟩ := m3 j hj; exact ⟨R j, _, m2 j hj, xw2 _ _ r1⟩) hw0 (by omega)) rfl ⟨by rw [hRm]; decide, by rw [hRm]; decide⟩ (Nat.le_of_ble_eq_true rfl) rfl (fun v h3 hw3 => ?_) (fun E h9 hx => hx.elim)
              obtain ⟨q3, g4, hv3, t1, t2, t3, t4, t5⟩ := hw3
              rw [hv3]
              have xw3 : Ex hh h3 := xw2.tr (Ex.new t1 t5)
              have hq3 : h3 q = some (.inl (0, 8, .inl (pB s))) := xw3 _ _ k5
              show V G F _ _ _ 179 [some (.ref o), some (.int (nI t)), some (.ref q), some (.ref md), some (.int (nI (pmin (pB s) 7))), some (.int (nI (pmax (pB s) 7))), some (.int (nI w)), some (.int (pamt (pB s) (pmin (pB s) 7) (pmax (pB s) 7)))] [.ref q3] h3
              refine V.run hF [(.astore_n 3, 1, .null), (.aload_n 2, 1, .null), (.iload 4, 2, .null), (.dup2, 1, .null)] (pc' := 184) (L' := [some (.ref o), some (.int (nI t)), some (.ref q), some (.ref q3), some (.int (nI (pmin (pB s) 7))), some (.int (nI (pmax (pB s) 7))), some (.int (nI w)), some (.int (pamt (pB s) (pmin (pB s) 7) (pmax (pB s) 7)))]) (st' := [.int (nI (pmin (pB s) 7)), .ref q, .int (nI (pmin (pB s) 7)), .ref q]) (by decide +kernel) rfl ?_
              refine V.ialdN (j := pmin (pB s) 7) hG hF (by decide +kernel) hq3 (by omega) (by first | decide | omega) ?_
              refine V.run hF [(.iload 7, 2, .null), (.iadd, 1, .null)] (pc' := 188) (L' := [some (.ref o), some (.int (nI t)), some (.ref q), some (.ref q3), some (.int (nI (pmin (pB s) 7))), some (.int (nI (pmax (pB s) 7))), some (.int (nI w)), some (.int (pamt (pB s) (pmin (pB s) 7) (pmax (pB s) 7)))]) (st' := [.int ((pB s) (pmin (pB s) 7) + pamt (pB s) (pmin (pB s) 7) (pmax (pB s) 7)), .int (nI (pmin (pB s) 7)), .ref q]) (by decide +kernel) rfl ?_
              refine V.iastN (j := pmin (pB s) 7) hG hF (by decide +kernel) hq3 (by omega) (by first | decide | omega) ?_
              obtain ⟨h_9, gh9⟩ : ∃ z : Hp, z = hset h3 q (.inl (0, 8, .inl (upd (pB s) (pmin (pB s) 7) ((pB s) (pmin (pB s) 7) + pamt (pB s) (pmin (pB s) 7) (pmax (pB s) 7))))) := ⟨_, rfl⟩
              refine V.hp gh9 ?_
              have gk9 : ∀ zq : Nat, zq ≠ q → h_9 zq = h3 zq := fun zq hq => by rw [gh9]; exact hset_ne hq
              have gs9 : h_9 q = some (.inl (0, 8, .inl (upd (pB s) (pmin (pB s) 7) ((pB s) (pmin (pB s) 7) + pamt (pB s) (pmin (pB s) 7) (pmax (pB s) 7))))) := by rw [gh9]; exact hset_eq
              refine V.run hF [(.aload_n 2, 1, .null), (.iload 5, 2, .null), (.dup2, 1, .null)] (pc' := 193) (L' := [some (.ref o), some (.int (nI t)), some (.ref q), some (.ref q3), some (.int (nI (pmin (pB s) 7))), some (.int (nI (pmax (pB s) 7))), some (.int (nI w)), some (.int (pamt (pB s) (pmin (pB s) 7) (pmax (pB s) 7)))]) (st' := [.int (nI (pmax (pB s) 7)), .ref q, .int (nI (pmax (pB s) 7)), .ref q]) (by decide +kernel) rfl ?_
              refine V.ialdN (j := pmax (pB s) 7) hG hF (by decide +kernel) gs9 (by omega) (by first | decide | omega) ?_
              refine V.run hF [(.iload 7, 2, .null), (.isub, 1, .null)] (pc' := 197) (L' := [some (.ref o), some (.int (nI t)), some (.ref q), some (.ref q3), some (.int (nI (pmin (pB s) 7))), some (.int (nI (pmax (pB s) 7))), some (.int (nI w)), some (.int (pamt (pB s) (pmin (pB s) 7) (pmax (pB s) 7)))]) (st' := [.int ((upd (pB s) (pmin (pB s) 7) ((pB s) (pmin (pB s) 7) + pamt (pB s) (pmin (pB s) 7) (pmax (pB s) 7))) (pmax (pB s) 7) - pamt (pB s) (pmin (pB s) 7) (pmax (pB s) 7)), .int (nI (pmax (pB s) 7)), .ref q]) (by decide +kernel) rfl ?_
              refine V.iastN (j := pmax (pB s) 7) hG hF (by decide +kernel) gs9 (by omega) (by first | decide | omega) ?_
              obtain ⟨h_10, gh10⟩ : ∃ z : Hp, z = hset h_9 q (.inl (0, 8, .inl (upd (upd (pB s) (pmin (pB s) 7) ((pB s) (pmin (pB s) 7) + pamt (pB s) (pmin (pB s) 7) (pmax (pB s) 7))) (pmax (pB s) 7) ((upd (pB s) (pmin (pB s) 7) ((pB s) (pmin (pB s) 7) + pamt (pB s) (pmin (pB s) 7) (pmax (pB s) 7))) (pmax (pB s) 7) - pamt (pB s) (pmin (pB s) 7) (pmax (pB s) 7))))) := ⟨_, rfl⟩
              refine V.hp gh10 ?_
              have gk10 : ∀ zq : Nat, zq ≠ q → h_10 zq = h_9 zq := fun zq hq => by rw [gh10]; exact hset_ne hq
              have gs10 : h_10 q = some (.inl (0, 8, .inl (upd (upd (pB s) (pmin (pB s) 7) ((pB s) (pmin (pB s) 7) + pamt (pB s) (pmin (pB s) 7) (pmax (pB s) 7))) (pmax (pB s) 7) ((upd (pB s) (pmin (pB s) 7) ((pB s) (pmin (pB s) 7) + pamt (pB s) (pmin (pB s) 7) (pmax (pB s) 7))) (pmax (pB s) 7) - pamt (pB s) (pmin (pB s) 7) (pmax (pB s) 7))))) := by rw [gh10]; exact hset_eq
              refine V.run hF [(.goto (-183), 3, .null)] (pc' := 15) (L' := [some (.ref o), some (.int (nI t)), some (.ref q), some (.ref q3), some (.int (nI (pmin (pB s) 7))), some (.int (nI (pmax (pB s) 7))), some (.int (nI w)), some (.int (pamt (pB s) (pmin (pB s) 7) (pmax (pB s) 7)))]) (st' := []) (by decide +kernel) rfl ?_
              have nqm : q3 ≠ q := Ne.symm (ne_new (xw2 _ _ k5) t1)
              have same : ∀ x, x ≠ q → h_10 x = h3 x := fun x hx => (gk10 x hx).trans (gk9 x hx)
              have hsq := gs10
              have hrw : Row h3 w0 (nI (pmin (pB s) 7)) (nI (pmax (pB s) 7)) (pamt (pB s) (pmin (pB s) 7) (pmax (pB s) 7)) (nI w) := ⟨_, (t5 w0 (ne_new hw0 t1)).trans hw0, rfl, rfl, rfl, rfl⟩
              have nwq : w0 ≠ q := Ne.symm (ne_new k5 hq_w0)
              refine ihf f' rfl _ (pstp s (pmin (pB s) 7) (pmax (pB s) 7) w) _ q3 (va_up R (pn s) w0) _ _ _ _ hB' (by omega) (by show sI (fun q => nzI (pb2 (pB s) (pmin (pB s) 7) (pmax (pB s) 7) q).toInt) 8 ≤ _; omega) (by show pn s + 1 + f' ≤ 8; omega) hsq ?_ ?_ ?_ ?_ ?_
              · refine ⟨⟨g4, (same q3 nqm).trans t2, fun j hj => ?_⟩, fun j hj => ?_⟩
                · have hj : j < pn s + 1 := hj
                  by_cases z : j = pn s
                  · rw [z, va_up_self]
                    exact t4
                  · rw [va_up_ne _ _ z, t3 j (by omega)]
                    exact m2 j (by omega)
                · have hj : j < pn s + 1 := hj
                  show Row _ _ (upd (pD s) (pn s) _ j) (upd (pC s) (pn s) _ j) (upd (pM s) (pn s) _ j) (upd (pW s) (pn s) _ j)
                  by_cases z : j = pn s
                  · rw [z, va_up_self, upd_s, upd_s, upd_s, upd_s]
                    exact hrw.mv (same w0 nwq)
                  · rw [va_up_ne _ _ z, upd_n z, upd_n z, upd_n z, upd_n z]
                    have r9 := (m3 j (by omega))
                    exact (r9.ex xw3).mv (same _ (r9.ne k5 (fun f e => by cases e)))
              · exact fun x c hc => (same x (fun z => by
                  rw [z] at hc
                  have := ne_new hc q1
                  exact this rfl)).trans (xw3 _ _ (k7 _ _ hc))
              · exact k7.none (xw2.none t1)
              · intro j hj
                have hj : j < pn s + 1 := hj
                by_cases z : j = pn s
                · rw [z, va_up_self]
                  exact k7.none hq_w0
                · rw [va_up_ne _ _ z]
                  exact k9 j (by omega)
              · intro i j hi hj
                have hi : i < pn s + 1 := hi
                have hj : j < pn s + 1 := hj
                have nw : ∀ k, k < pn s → R k ≠ w0 := fun k hk => by
                  obtain ⟨fr, r1, -⟩ := m3 k hk
                  exact ne_new r1 hq_w0
                by_cases zi : i = pn s
                · by_cases zj : j = pn s
                  · exact fun _ => zi.trans zj.symm
                  · rw [zi, va_up_self, va_up_ne _ _ zj]
                    exact fun e => absurd e.symm (nw j (by omega))
                · by_cases zj : j = pn s
                  · rw [zj, va_up_self, va_up_ne _ _ zi]
                    exact fun e => absurd e (nw i (by omega))
                  · rw [va_up_ne _ _ zi, va_up_ne _ _ zj]
                    exact k10 i j (by omega) (by omega)
            refine V.run hF [(.aload_n 2, 1, .null), (.iload 4, 2, .null)] (pc' := 129) (L' := [some (.ref o), some (.int (nI t)), some (.ref q), some (.ref md), some (.int (nI (pmin (pB s) 7))), some (.int (nI (pmax (pB s) 7))), some (.int (nI w)), none]) (st' := [.int (nI (pmin (pB s) 7)), .ref q]) (by decide +kernel) rfl ?_
            refine V.ialdN (j := pmin (pB s) 7) hG hF (by decide +kernel) k5 (by omega) (by first | decide | omega) ?_
            refine V.run hF [(.ineg, 1, .null), (.aload_n 2, 1, .null), (.iload 5, 2, .null)] (pc' := 134) (L' := [some (.ref o), some (.int (nI t)), some (.ref q), some (.ref md), some (.int (nI (pmin (pB s) 7))), some (.int (nI (pmax (pB s) 7))), some (.int (nI w)), none]) (st' := [.int (nI (pmax (pB s) 7)), .ref q, .int (-((pB s) (pmin (pB s) 7)))]) (by decide +kernel) rfl ?_
            refine V.ialdN (j := pmax (pB s) 7) hG hF (by decide +kernel) k5 (by omega) (by first | decide | omega) ?_
            refine V.icmp_ge hF (off := 11) (tgt := 146) (by decide +kernel) (by decide) (fun c5 => ?_) (fun c5 => ?_)
            · skip
              refine V.run hF [(.aload_n 2, 1, .null), (.iload 5, 2, .null)] (pc' := 149) (L' := [some (.ref o), some (.int (nI t)), some (.ref q), some (.ref md), some (.int (nI (pmin (pB s) 7))), some (.int (nI (pmax (pB s) 7))), some (.int (nI w)), none]) (st' := [.int (nI (pmax (pB s) 7)), .ref q]) (by decide +kernel) rfl ?_
              refine V.ialdN (j := pmax (pB s) 7) hG hF (by decide +kernel) k5 (by omega) (by first | decide | omega) ?_
              rw [pam_a c5]
              exact rest
            · skip
              refine V.run hF [(.aload_n 2, 1, .null), (.iload 4, 2, .null)] (pc' := 141) (L' := [some (.ref o), some (.int (nI t)), some (.ref q), some (.ref md), some (.int (nI (pmin (pB s) 7))), some (.int (nI (pmax (pB s) 7))), some (.int (nI w)), none]) (st' := [.int (nI (pmin (pB s) 7)), .ref q]) (by decide +kernel) rfl ?_
              refine V.ialdN (j := pmin (pB s) 7) hG hF (by decide +kernel) k5 (by omega) (by first | decide | omega) ?_
              refine V.run hF [(.ineg, 1, .null), (.goto 7, 3, .null)] (pc' := 150) (L' := [some (.ref o), some (.int (nI t)), some (.ref q), some (.ref md), some (.int (nI (pmin (pB s) 7))), some (.int (nI (pmax (pB s) 7))), some (.int (nI w)), none]) (st' := [.int (-((pB s) (pmin (pB s) 7)))]) (by decide +kernel) rfl ?_
              rw [pam_b c5]
              exact rest
          have found : ∀ i, i ≤ 8 → wf f0 (pmin (pB s) 7) (pmax (pB s) 7) 8 0 = wf f0 (pmin (pB s) 7) (pmax (pB s) 7) (8 - i) i → V G F (fin G F (smQ h (pl f0 (f' + 1) s)) pxN) (2 * (f' + 1)) (20 * (f' + 1)) 80 [some (.ref o), some (.int (nI t)), some (.ref q), some (.ref md), some (.int (nI (pmin (pB s) 7))), some (.int (nI (pmax (pB s) 7))), some (.int (nI i)), none] [] hh := by
            refine lp_up 8 fun i hi ih hwf => ?_
            refine V.run hF [(.iload 6, 2, .null), (.bipush 8, 2, .int (nI 8))] (pc' := 84) (L' := [some (.ref o), some (.int (nI t)), some (.ref q), some (.ref md), some (.int (nI (pmin (pB s) 7))), some (.int (nI (pmax (pB s) 7))), some (.int (nI i)), none]) (st' := [.int (nI 8), .int (nI i)]) (by decide +kernel) rfl ?_
            refine V.icmpN_ge (i := i) (j := 8) hF (off := 33) (tgt := 117) (by decide +kernel) (by decide) (by omega) (by omega) (fun c2 => ?_) (fun c2 => ?_)
            · have e8 : i = 8 := by omega
              refine V.run hF [(.iload 6, 2, .null), (.bipush 8, 2, .int (nI 8))] (pc' := 121) (L' := [some (.ref o), some (.int (nI t)), some (.ref q), some (.ref md), some (.int (nI (pmin (pB s) 7))), some (.int (nI (pmax (pB s) 7))), some (.int (nI i)), none]) (st' := [.int (nI 8), .int (nI i)]) (by decide +kernel) rfl ?_
              refine V.icmpN_ne (i := i) (j := 8) hF (off := 5) (tgt := 126) (by decide +kernel) (by decide) (by omega) (by omega) (fun c3 => ?_) (fun c3 => ?_)
              · exact absurd e8 c3
              · skip
                rw [e8] at hwf
                rw [pl_none hneg hwf]
                refine V.run hF [(.aconst_null, 1, .null)] (pc' := 125) (L' := [some (.ref o), some (.int (nI t)), some (.ref q), some (.ref md), some (.int (nI (pmin (pB s) 7))), some (.int (nI (pmax (pB s) 7))), some (.int (nI i)), none]) (st' := [.null]) (by decide +kernel) rfl ?_
                exact V.retN hF (by decide +kernel) ⟨k7, Or.inl ⟨rfl, rfl⟩⟩
            · skip
              rw [show 8 - i = (8 - (i + 1)) + 1 by omega] at hwf
              refine V.run hF [(.aload_n 0, 1, .null)] (pc' := 88) (L' := [some (.ref o), some (.int (nI t)), some (.ref q), some (.ref md), some (.int (nI (pmin (pB s) 7))), some (.int (nI (pmax (pB s) 7))), some (.int (nI i)), none]) (st' := [.ref o]) (by decide +kernel) rfl ?_
              refine V.getf hG hF k_RX4_7 (by decide +kernel) (k7 _ _ hO) rfl ?_
              refine V.run hF [(.iload 6, 2, .null)] (pc' := 93) (L' := [some (.ref o), some (.int (nI t)), some (.ref q), some (.ref md), some (.int (nI (pmin (pB s) 7))), some (.int (nI (pmax (pB s) 7))), some (.int (nI i)), none]) (st' := [.int (nI i), .ref th]) (by decide +kernel) rfl ?_
              refine V.zaldN (j := i) hG hF (by decide +kernel) (k7 _ _ hth) (by omega) (by first | decide | omega) ?_
              refine V.if_eq hF (off := 17) (tgt := 111) (by decide +kernel) (by decide) (fun c3 => ?_) (fun c3 => ?_)
              · rw [wf_n (fun z => z.1 c3)] at hwf
                refine V.run hF [(.iinc 6 1, 3, .int 1), (.goto (-34), 3, .null)] (pc' := 80) (L' := [some (.ref o), some (.int (nI t)), some (.ref q), some (.ref md), some (.int (nI (pmin (pB s) 7))), some (.int (nI (pmax (pB s) 7))), some (.int ((nI i) + 1)), none]) (st' := []) (by decide +kernel) rfl ?_
                rw [nI_1 i]
                exact ih c2 hwf
              · skip
                refine V.run hF [(.iload 6, 2, .null), (.iload 4, 2, .null)] (pc' := 101) (L' := [some (.ref o), some (.int (nI t)), some (.ref q), some (.ref md), some (.int (nI (pmin (pB s) 7))), some (.int (nI (pmax (pB s) 7))), some (.int (nI i)), none]) (st' := [.int (nI (pmin (pB s) 7)), .int (nI i)]) (by decide +kernel) rfl ?_
                refine V.icmpN_eq (i := i) (j := pmin (pB s) 7) hF (off := 10) (tgt := 111) (by decide +kernel) (by decide) (by omega) (by omega) (fun c4 => ?_) (fun c4 => ?_)
                · rw [wf_n (fun z => z.2.1 c4)] at hwf
                  refine V.run hF [(.iinc 6 1, 3, .int 1), (.goto (-34), 3, .null)] (pc' := 80) (L' := [some (.ref o), some (.int (nI t)), some (.ref q), some (.ref md), some (.int (nI (pmin (pB s) 7))), some (.int (nI (pmax (pB s) 7))), some (.int ((nI i) + 1)), none]) (st' := []) (by decide +kernel) rfl ?_
                  rw [nI_1 i]
                  exact ih c2 hwf
                · skip
                  refine V.run hF [(.iload 6, 2, .null), (.iload 5, 2, .null)] (pc' := 108) (L' := [some (.ref o), some (.int (nI t)), some (.ref q), some (.ref md), some (.int (nI (pmin (pB s) 7))), some (.int (nI (pmax (pB s) 7))), some (.int (nI i)), none]) (st' := [.int (nI (pmax (pB s) 7)), .int (nI i)]) (by decide +kernel) rfl ?_
                  refine V.icmpN_ne (i := i) (j := pmax (pB s) 7) hF (off := 9) (tgt := 117) (by decide +kernel) (by decide) (by omega) (by omega) (fun c6 => ?_) (fun c6 => ?_)
                  · rw [wf_y ⟨c3, c4, c6⟩] at hwf
                    refine V.run hF [(.iload 6, 2, .null), (.bipush 8, 2, .int (nI 8))] (pc' := 121) (L' := [some (.ref o), some (.int (nI t)), some (.ref q), some (.ref md), some (.int (nI (pmin (pB s) 7))), some (.int (nI (pmax (pB s) 7))), some (.int (nI i)), none]) (st' := [.int (nI 8), .int (nI i)]) (by decide +kernel) rfl ?_
                    refine V.icmpN_ne (i := i) (j := 8) hF (off := 5) (tgt := 126) (by decide +kernel) (by decide) (by omega) (by omega) (fun c7 => ?_) (fun c7 => ?_)
                    · exact made i c2 hwf
                    · skip
                      exact absurd c7 (by omega)
                  · skip
                    rw [wf_n (fun z => z.2.2 c6)] at hwf
                    refine V.run hF [(.iinc 6 1, 3, .int 1), (.goto (-34), 3, .null)] (pc' := 80) (L' := [some (.ref o), some (.int (nI t)), some (.ref q), some (.ref md), some (.int (nI (pmin (pB s) 7))), some (.int (nI (pmax (pB s) 7))), some (.int ((nI i) + 1)), none]) (st' := []) (by decide +kernel) rfl ?_
                    rw [nI_1 i]
                    exact ih c2 hwf
          refine V.run hF [(.iconst 0, 1, .int (nI 0)), (.istore 6, 2, .null)] (pc' := 80) (L' := [some (.ref o), some (.int (nI t)), some (.ref q), some (.ref md), some (.int (nI (pmin (pB s) 7))), some (.int (nI (pmax (pB s) 7))), some (.int (nI 0)), none]) (st' := []) (by decide +kernel) rfl ?_
          exact found 0 (Nat.zero_le _) rfl
        · skip
          have hpos : ¬ pB s (pmin (pB s) 7) < 0 := fun z => by
            rw [c1] at z
            exact absurd z (by decide +kernel)
          rw [pl_done hpos]
          refine V.run hF [(.aload_n 3, 1, .null)] (pc' := 76) (L' := [some (.ref o), some (.int (nI t)), some (.ref q), some (.ref md), some (.int (nI (pmin (pB s) 7))), some (.int (nI (pmax (pB s) 7))), none, none]) (st' := [.ref md]) (by decide +kernel) rfl ?_
          exact V.retA hF (by decide +kernel) ⟨k7, Or.inr ⟨rfl, md, R, rfl, k8, k9, k10, k6⟩⟩
      have scan : ∀ i, i ≤ 7 → ∀ (a b : Nat) (v6 : Int32), LQ (pB s) i a → HQ (pB s) i b → v6 = nI i + (-1) → V G F (fin G F (smQ h (pl f0 f s)) pxN) (2 * f) (20 * f) 27 [some (.ref o), some (.int (nI t)), some (.ref q), some (.ref md), some (.int (nI a)), some (.int (nI b)), some (.int v6), none] [] hh := by
        intro i
        induction i with
        | zero =>
          intro _ a b v6 l1 l2 e6
          refine V.run hF [(.iload 6, 2, .null)] (pc' := 29) (L' := [some (.ref o), some (.int (nI t)), some (.ref q), some (.ref md), some (.int (nI a)), some (.int (nI b)), some (.int v6), none]) (st' := [.int v6]) (by decide +kernel) rfl ?_
          refine V.if_lt hF (off := 39) (tgt := 68) (by decide +kernel) (by decide) (fun c1 => ?_) (fun c1 => ?_)
          · rw [l1.eq, l2.eq]
            exact after _ _
          · skip
            rw [e6] at c1
            exact absurd (by decide +kernel) c1
        | succ j ihj =>
          intro hi a b v6 l1 l2 e6
          rw [nI_m1] at e6
          rw [e6]
          have a8 := l1.2.1
          have b8 := l2.2.1
          refine V.run hF [(.iload 6, 2, .null)] (pc' := 29) (L' := [some (.ref o), some (.int (nI t)), some (.ref q), some (.ref md), some (.int (nI a)), some (.int (nI b)), some (.int (nI j)), none]) (st' := [.int (nI j)]) (by decide +kernel) rfl ?_
          refine V.if_lt hF (off := 39) (tgt := 68) (by decide +kernel) (by decide) (fun c1 => ?_) (fun c1 => ?_)
          · exact absurd c1 (nI_pos (by omega))
          · skip
            refine V.run hF [(.aload_n 2, 1, .null), (.iload 6, 2, .null)] (pc' := 35) (L' := [some (.ref o), some (.int (nI t)), some (.ref q), some (.ref md), some (.int (nI a)), some (.int (nI b)), some (.int (nI j)), none]) (st' := [.int (nI j), .ref q]) (by decide +kernel) rfl ?_
            refine V.ialdN (j := j) hG hF (by decide +kernel) k5 (by omega) (by first | decide | omega) ?_
            refine V.run hF [(.aload_n 2, 1, .null), (.iload 4, 2, .null)] (pc' := 39) (L' := [some (.ref o), some (.int (nI t)), some (.ref q), some (.ref md), some (.int (nI a)), some (.int (nI b)), some (.int (nI j)), none]) (st' := [.int (nI a), .ref q, .int ((pB s) j)]) (by decide +kernel) rfl ?_
            refine V.ialdN (j := a) hG hF (by decide +kernel) k5 (by omega) (by first | decide | omega) ?_
            refine V.icmp_gt hF (off := 7) (tgt := 47) (by decide +kernel) (by decide) (fun c2 => ?_) (fun c2 => ?_)
            · skip
              refine V.run hF [(.aload_n 2, 1, .null), (.iload 6, 2, .null)] (pc' := 50) (L' := [some (.ref o), some (.int (nI t)), some (.ref q), some (.ref md), some (.int (nI a)), some (.int (nI b)), some (.int (nI j)), none]) (st' := [.int (nI j), .ref q]) (by decide +kernel) rfl ?_
              refine V.ialdN (j := j) hG hF (by decide +kernel) k5 (by omega) (by first | decide | omega) ?_
              refine V.run hF [(.aload_n 2, 1, .null), (.iload 5, 2, .null)] (pc' := 54) (L' := [some (.ref o), some (.int (nI t)), some (.ref q), some (.ref md), some (.int (nI a)), some (.int (nI b)), some (.int (nI j)), none]) (st' := [.int (nI b), .ref q, .int ((pB s) j)]) (by decide +kernel) rfl ?_
              refine V.ialdN (j := b) hG hF (by decide +kernel) k5 (by omega) (by first | decide | omega) ?_
              refine V.icmp_lt hF (off := 7) (tgt := 62) (by decide +kernel) (by decide) (fun c3 => ?_) (fun c3 => ?_)
              · skip
                refine V.run hF [(.iinc 6 (-1), 3, .int (-1)), (.goto (-38), 3, .null)] (pc' := 27) (L' := [some (.ref o), some (.int (nI t)), some (.ref q), some (.ref md), some (.int (nI a)), some (.int (nI b)), some (.int ((nI j) + (-1))), none]) (st' := []) (by decide +kernel) rfl ?_
                exact ihj (by omega) _ _ _ (l1.n c2) (l2.n c3) rfl
              · skip
                refine V.run hF [(.iload 6, 2, .null), (.istore 5, 2, .null), (.iinc 6 (-1), 3, .int (-1)), (.goto (-38), 3, .null)] (pc' := 27) (L' := [some (.ref o), some (.int (nI t)), some (.ref q), some (.ref md), some (.int (nI a)), some (.int (nI j)), some (.int ((nI j) + (-1))), none]) (st' := []) (by decide +kernel) rfl ?_
                exact ihj (by omega) _ _ _ (l1.n c2) (l2.y c3) rfl
            · skip
              refine V.run hF [(.iload 6, 2, .null), (.istore 4, 2, .null), (.aload_n 2, 1, .null), (.iload 6, 2, .null)] (pc' := 50) (L' := [some (.ref o), some (.int (nI t)), some (.ref q), some (.ref md), some (.int (nI j)), some (.int (nI b)), some (.int (nI j)), none]) (st' := [.int (nI j), .ref q]) (by decide +kernel) rfl ?_
              refine V.ialdN (j := j) hG hF (by decide +kernel) k5 (by omega) (by first | decide | omega) ?_
              refine V.run hF [(.aload_n 2, 1, .null), (.iload 5, 2, .null)] (pc' := 54) (L' := [some (.ref o), some (.int (nI t)), some (.ref q), some (.ref md), some (.int (nI j)), some (.int (nI b)), some (.int (nI j)), none]) (st' := [.int (nI b), .ref q, .int ((pB s) j)]) (by decide +kernel) rfl ?_
              refine V.ialdN (j := b) hG hF (by decide +kernel) k5 (by omega) (by first | decide | omega) ?_
              refine V.icmp_lt hF (off := 7) (tgt := 62) (by decide +kernel) (by decide) (fun c3 => ?_) (fun c3 => ?_)
              · skip
                refine V.run hF [(.iinc 6 (-1), 3, .int (-1)), (.goto (-38), 3, .null)] (pc' := 27) (L' := [some (.ref o), some (.int (nI t)), some (.ref q), some (.ref md), some (.int (nI j)), some (.int (nI b)), some (.int ((nI j) + (-1))), none]) (st' := []) (by decide +kernel) rfl ?_
                exact ihj (by omega) _ _ _ (l1.y c2) (l2.n c3) rfl
              · skip
                refine V.run hF [(.iload 6, 2, .null), (.istore 5, 2, .null), (.iinc 6 (-1), 3, .int (-1)), (.goto (-38), 3, .null)] (pc' := 27) (L' := [some (.ref o), some (.int (nI t)), some (.ref q), some (.ref md), some (.int (nI j)), some (.int (nI j)), some (.int ((nI j) + (-1))), none]) (st' := []) (by decide +kernel) rfl ?_
                exact ihj (by omega) _ _ _ (l1.y c2) (l2.y c3) rfl
      refine V.run hF [(.bipush 7, 2, .int (nI 7)), (.istore 4, 2, .null), (.bipush 7, 2, .int (nI 7)), (.istore 5, 2, .null), (.bipush 6, 2, .int (nI 6)), (.istore 6, 2, .null)] (pc' := 27) (L' := [some (.ref o), some (.int (nI t)), some (.ref q), some (.ref md), some (.int (nI 7)), some (.int (nI 7)), some (.int (nI 6)), none]) (st' := []) (by decide +kernel) rfl ?_
      exact scan 7 (Nat.le_refl _) 7 7 _ LQ.z HQ.z (by decide +kernel)
    intro f
    induction f with
    | zero => exact step 0 (fun f' e => by omega)
    | succ f ih => exact step (f + 1) (fun f' e => by rw [← Nat.succ.inj e]; exact ih)
  refine V.run hF [(.astore_n 3, 1, .null)] (pc' := 15) (L' := [some (.ref o), some (.int (nI t)), some (.ref q), some (.ref md0), none, none, none, none]) (st' := []) (by decide +kernel) rfl ?_
  refine V.less (kc' := 2 * 8) (ks' := 20 * 8) (by decide) (by decide) ?_
  have eB : ∀ p, p < 8 → balN D C M n p = ff p := fun p hp => (q3 p hp).symm
  have hag := pl_ag (th := f0) 8 (z0 ff) (z0 (balN D C M n)) ⟨q3, rfl, fun j hj => absurd hj (Nat.not_lt_zero j)⟩
  have k := loop 8 S (z0 ff) _ md0 (fun _ => 0) none none none none (hB.cg fun p hp => q3 p hp) hS (nz8 ff 8) (Nat.le_refl _) hq0 ⟨⟨_, hm0, fun j hj => absurd hj (Nat.not_lt_zero j)⟩, fun j hj => absurd hj (Nat.not_lt_zero j)⟩ x2 (x1.none hq_md0) (fun j hj => absurd hj (Nat.not_lt_zero j)) (fun i j hi => absurd hi (Nat.not_lt_zero i))
  exact V.post (fun v h' hp => smQ.ag hag hp) k
end Ss
