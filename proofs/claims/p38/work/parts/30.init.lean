/-! ===== the constructors ===== -/
def PS0 : PS := (fun _ => 0, fun _ => 0, fun _ => 0, fun _ => 0, fun _ => 0, 0)
section Ix
variable {G : Gt} {h : Hp} {a : Nat}
set_option maxHeartbeats 4000000 in
theorem c_X1_init (hG : GOk G) (hA : h a = some (.inr (1, [.null, .null]))) :
    Ct G yX1_init (.code yX1_init cX1_init 1 none) 2 32 6 61 [.ref a] h (is_v fun h' => ∃ ba nl d c m w, SMc h' a ba nl d c m w PS0 ∧ nd6 ba nl d c m w ∧ (h ba = none ∧ h nl = none ∧ h d = none ∧ h c = none ∧ h m = none ∧ h w = none) ∧ ba ≠ nl ∧ nd5 nl d c m w ∧ (∀ q, q ≠ a → q ≠ ba → q ≠ nl → q ≠ d → q ≠ c → q ≠ m → q ≠ w → h' q = h q)) pxN := by
  refine Ct.of (by decide +kernel) (Nat.le_of_ble_eq_true rfl) fun F hF hT hN hRm => ?_
  refine V.run hF [(.aload_n 0, 1, .null)] (pc' := 1) (L' := [some (.ref a)]) (st' := [.ref a]) (by decide +kernel) rfl ?_
  refine V.objInit hG hF tw_29 tw_oi1 tw_oi2 (by decide +kernel) ⟨by rw [hRm]; decide, by rw [hRm]; decide⟩ ?_
  refine V.run hF [(.aload_n 0, 1, .null), (.bipush 8, 2, .int (nI 8))] (pc' := 7) (L' := [some (.ref a)]) (st' := [.int (nI 8), .ref a]) (by decide +kernel) rfl ?_
  refine V.newa (aty := .int) (t := 0) (N := 8) (a0 := (8, .inl (fun _ => 0))) hG hF (by decide) rfl tw_arr_0.1 (by decide +kernel) (by decide) (by decide) (by decide) (fun _ => rfl) (fun b hq_b => ?_)
  have ne_a_b : a ≠ b := ne_new hA hq_b
  obtain ⟨h_1, gh1⟩ : ∃ z : Hp, z = hset h b (.inl (0, 8, .inl (fun _ => 0))) := ⟨_, rfl⟩
  refine V.hp gh1 ?_
  have gk1 : ∀ q : Nat, q ≠ b → h_1 q = h q := fun q hq => by rw [gh1]; exact hset_ne hq
  have gs1 : h_1 b = some (.inl (0, 8, .inl (fun _ => 0))) := by rw [gh1]; exact hset_eq
  have kb := gk1
  have gf2 : h_1 a = some (.inr (1, [.null, .null])) := (gk1 a (by first | assumption | exact Ne.symm (by assumption) | omega)).trans hA
  refine V.putF hG hF ko_RX1_9 hN (by decide +kernel) gf2 (fun C T N hc => by cases hc; exact ⟨rfl, rfl, (.array .int), by decide +kernel, rfl, rfl⟩) (Nat.le_of_ble_eq_true rfl) ?_
  obtain ⟨h_3, gh3⟩ : ∃ z : Hp, z = hset h_1 a (.inr (1, [.ref b, .null])) := ⟨_, rfl⟩
  refine V.hp gh3 ?_
  have gk3 : ∀ q : Nat, q ≠ a → h_3 q = h_1 q := fun q hq => by rw [gh3]; exact hset_ne hq
  have gs3 : h_3 a = some (.inr (1, [.ref b, .null])) := by rw [gh3]; exact hset_eq
  refine V.run hF [(.aload_n 0, 1, .null)] (pc' := 13) (L' := [some (.ref a)]) (st' := [.ref a]) (by decide +kernel) rfl ?_
  have kb2 := gk3
  have gf4 : h_3 b = some (.inl (0, 8, .inl (fun _ => 0))) := (gk3 b (by first | assumption | exact Ne.symm (by assumption) | omega)).trans gs1
  refine V.new hG hF k_RX1_15 (by decide +kernel) (fun l hq_l => ?_)
  have ne_a_l : a ≠ l := ne_new gs3 hq_l
  have ne_b_l : b ≠ l := ne_new gf4 hq_l
  obtain ⟨h_5, gh5⟩ : ∃ z : Hp, z = hset h_3 l (.inr (0, [.null, .null, .null, .null, .int 0])) := ⟨_, rfl⟩
  refine V.hp gh5 ?_
  have gk5 : ∀ q : Nat, q ≠ l → h_5 q = h_3 q := fun q hq => by rw [gh5]; exact hset_ne hq
  have gs5 : h_5 l = some (.inr (0, [.null, .null, .null, .null, .int 0])) := by rw [gh5]; exact hset_eq
  have kl := gk5
  refine V.run hF [(.dup, 1, .null)] (pc' := 17) (L' := [some (.ref a)]) (st' := [.ref l, .ref l, .ref a]) (by decide +kernel) rfl ?_
  have gf6 : h_5 a = some (.inr (1, [.ref b, .null])) := (gk5 a (by first | assumption | exact Ne.symm (by assumption) | omega)).trans gs3
  have hA1 := gf6
  have gf7 : h_5 b = some (.inl (0, 8, .inl (fun _ => 0))) := (gk5 b (by first | assumption | exact Ne.symm (by assumption) | omega)).trans gf4
  have hb1 := gf7
  refine V.callI (As := []) (st := [.ref l, .ref a]) hG hF k_RX1_17 (by decide +kernel) (c_X0_init hG gs5) rfl ⟨by rw [hRm]; decide, by rw [hRm]; decide⟩ (Nat.le_of_ble_eq_true rfl) rfl (fun v h_8 gp8 => ?_)
  obtain ⟨rfl, d, c, m, w, hLL, hnd, ⟨f1, f2, f3, f4⟩, hk2⟩ := gp8
  show V G F _ _ _ 20 [some (.ref a)] [.ref l, .ref a] h_8
  have na : a ≠ d ∧ a ≠ c ∧ a ≠ m ∧ a ≠ w := ⟨ne_new hA1 f1, ne_new hA1 f2, ne_new hA1 f3, ne_new hA1 f4⟩
  have nb : b ≠ d ∧ b ≠ c ∧ b ≠ m ∧ b ≠ w := ⟨ne_new hb1 f1, ne_new hb1 f2, ne_new hb1 f3, ne_new hb1 f4⟩
  have hA2 := (hk2 a ne_a_l na.1 na.2.1 na.2.2.1 na.2.2.2).trans hA1
  have hb2 := (hk2 b ne_b_l nb.1 nb.2.1 nb.2.2.1 nb.2.2.2).trans hb1
  have hll := hLL.nd hnd
  refine V.putF hG hF ko_RX1_18 hN (by decide +kernel) hA2 (fun C T N hc => by cases hc; exact ⟨rfl, rfl, (.object "TallyWax$LineList"), by decide +kernel, rfl, rfl⟩) (Nat.le_of_ble_eq_true rfl) ?_
  obtain ⟨h_9, gh9⟩ : ∃ z : Hp, z = hset h_8 a (.inr (1, [.ref b, .ref l])) := ⟨_, rfl⟩
  refine V.hp gh9 ?_
  have gk9 : ∀ q : Nat, q ≠ a → h_9 q = h_8 q := fun q hq => by rw [gh9]; exact hset_ne hq
  have gs9 : h_9 a = some (.inr (1, [.ref b, .ref l])) := by rw [gh9]; exact hset_eq
  obtain ⟨g1, g2, g3, g4, g5⟩ := hLL
  have up : ∀ q, q ≠ l → q ≠ a → q ≠ b → h_5 q = none → h q = none := fun q e1 e2 e3 e4 => by rw [← kb q e3, ← kb2 q e2, ← kl q e1]; exact e4
  have hl0 : h l = none := by rw [← kb l (Ne.symm ne_b_l), ← kb2 l (Ne.symm ne_a_l)]; exact hq_l
  exact V.retv hF (by decide +kernel) ⟨rfl, b, l, d, c, m, w, ⟨gs9, (gk9 _ (Ne.symm ne_a_b)).trans hb2, (gk9 _ (Ne.symm ne_a_l)).trans g1, (gk9 _ (Ne.symm na.1)).trans g2, (gk9 _ (Ne.symm na.2.1)).trans g3, (gk9 _ (Ne.symm na.2.2.1)).trans g4, (gk9 _ (Ne.symm na.2.2.2)).trans g5⟩, ⟨⟨ne_b_l, nb⟩, hnd⟩, ⟨hq_b, hl0, up d (Ne.symm hll.1.1) (Ne.symm na.1) (Ne.symm nb.1) f1, up c (Ne.symm hll.1.2.1) (Ne.symm na.2.1) (Ne.symm nb.2.1) f2, up m (Ne.symm hll.1.2.2.1) (Ne.symm na.2.2.1) (Ne.symm nb.2.2.1) f3, up w (Ne.symm hll.1.2.2.2) (Ne.symm na.2.2.2) (Ne.symm nb.2.2.2) f4⟩, ne_b_l, hll, fun q e1 e2 e3 e4 e5 e6 e7 => (gk9 q e1).trans ((hk2 q e3 e4 e5 e6 e7).trans ((kl q e3).trans ((kb2 q e1).trans (kb q e2))))⟩
end Ix
def S0 : Sg := (mxk 8 (fun _ => 1) (fun _ => 0), 0, fun _ => 0, fun _ => 0, fun _ => 0, (fun _ _ => 0, fun _ _ => 0, fun _ _ => 0, fun _ _ => 0), fun _ => 0, 0, 0, 0)
def li12 (L : List Nat) : Nat → Nat := fun i => (L[i]?).getD 0
theorem li_inj {L : List Nat} (h : L.Nodup) : Inj (li12 L) L.length := fun i j hi hj e => by
  unfold li12 at e
  rw [List.getElem?_eq_getElem hi, List.getElem?_eq_getElem hj] at e
  have h := List.pairwise_iff_getElem.mp h
  rcases Nat.lt_trichotomy i j with q | q | q
  · exact absurd e (h i j hi hj q)
  · exact q
  · exact absurd e.symm (h j i hj hi q)
section Iy
variable {G : Gt} {h : Hp} {a : Nat}
set_option maxHeartbeats 8000000 in
theorem c_X3_init (hG : GOk G) (hA : h a = some (.inr (3, [.null, .null, .null, .null, .null, .int 0, .int 0, .int 0, .int 0]))) :
    Ct G yX3_init (.code yX3_init cX3_init 2 none) 3 53 11 97 [.ref a] h (is_v fun h' => ∃ A : Nat → Nat, A 0 = a ∧ CS h' A S0 PS0 (fun _ => 0) ∧ (∀ i, 0 < i → i < 12 → h (A i) = none) ∧ kpC h h' A 12) pxN := by
  refine Ct.of (by decide +kernel) (Nat.le_of_ble_eq_true rfl) fun F hF hT hN hRm => ?_
  refine V.run hF [(.aload_n 0, 1, .null)] (pc' := 1) (L' := [some (.ref a), none]) (st' := [.ref a]) (by decide +kernel) rfl ?_
  refine V.objInit hG hF tw_19 tw_oi1 tw_oi2 (by decide +kernel) ⟨by rw [hRm]; decide, by rw [hRm]; decide⟩ ?_
  refine V.run hF [(.aload_n 0, 1, .null), (.bipush 8, 2, .int (nI 8))] (pc' := 7) (L' := [some (.ref a), none]) (st' := [.int (nI 8), .ref a]) (by decide +kernel) rfl ?_
  refine V.newa (aty := .boolean) (t := 1) (N := 8) (a0 := (8, .inl (fun _ => 0))) hG hF (by decide) rfl tw_arr_1.1 (by decide +kernel) (by decide) (by decide) (by decide) (fun _ => rfl) (fun b hq_b => ?_)
  have ne_a_b : a ≠ b := ne_new hA hq_b
  obtain ⟨h_1, gh1⟩ : ∃ z : Hp, z = hset h b (.inl (1, 8, .inl (fun _ => 0))) := ⟨_, rfl⟩
  refine V.hp gh1 ?_
  have gk1 : ∀ q : Nat, q ≠ b → h_1 q = h q := fun q hq => by rw [gh1]; exact hset_ne hq
  have gs1 : h_1 b = some (.inl (1, 8, .inl (fun _ => 0))) := by rw [gh1]; exact hset_eq
  have k1 := gk1
  have gf2 : h_1 a = some (.inr (3, [.null, .null, .null, .null, .null, .int 0, .int 0, .int 0, .int 0])) := (gk1 a (by first | assumption | exact Ne.symm (by assumption) | omega)).trans hA
  refine V.putF hG hF ko_RX3_9 hN (by decide +kernel) gf2 (fun C T N hc => by cases hc; exact ⟨rfl, rfl, (.array .boolean), by decide +kernel, rfl, rfl⟩) (Nat.le_of_ble_eq_true rfl) ?_
  obtain ⟨h_3, gh3⟩ : ∃ z : Hp, z = hset h_1 a (.inr (3, [.ref b, .null, .null, .null, .null, .int 0, .int 0, .int 0, .int 0])) := ⟨_, rfl⟩
  refine V.hp gh3 ?_
  have gk3 : ∀ q : Nat, q ≠ a → h_3 q = h_1 q := fun q hq => by rw [gh3]; exact hset_ne hq
  have gs3 : h_3 a = some (.inr (3, [.ref b, .null, .null, .null, .null, .int 0, .int 0, .int 0, .int 0])) := by rw [gh3]; exact hset_eq
  refine V.run hF [(.aload_n 0, 1, .null), (.bipush 8, 2, .int (nI 8))] (pc' := 15) (L' := [some (.ref a), none]) (st' := [.int (nI 8), .ref a]) (by decide +kernel) rfl ?_
  have k2 := gk3
  have gf4 : h_3 b = some (.inl (1, 8, .inl (fun _ => 0))) := (gk3 b (by first | assumption | exact Ne.symm (by assumption) | omega)).trans gs1
  refine V.newq (N := 8) hG hF tw_22.1 tw_over (by decide +kernel) (by decide) (by decide) (by decide) (fun s hq_s => ?_)
  have ne_a_s : a ≠ s := ne_new gs3 hq_s
  have ne_b_s : b ≠ s := ne_new gf4 hq_s
  obtain ⟨h_5, gh5⟩ : ∃ z : Hp, z = hset h_3 s (.inl (3, 8, .inr (.inr (.inr (.inr (fun _ => none)))))) := ⟨_, rfl⟩
  refine V.hp gh5 ?_
  have gk5 : ∀ q : Nat, q ≠ s → h_5 q = h_3 q := fun q hq => by rw [gh5]; exact hset_ne hq
  have gs5 : h_5 s = some (.inl (3, 8, .inr (.inr (.inr (.inr (fun _ => none)))))) := by rw [gh5]; exact hset_eq
  have k3 := gk5
  have gf6 : h_5 a = some (.inr (3, [.ref b, .null, .null, .null, .null, .int 0, .int 0, .int 0, .int 0])) := (gk5 a (by first | assumption | exact Ne.symm (by assumption) | omega)).trans gs3
  refine V.putF hG hF ko_RX3_15 hN (by decide +kernel) gf6 (fun C T N hc => by cases hc; exact ⟨rfl, rfl, (.array (.object "TallyWax$Tablet")), by decide +kernel, rfl, rfl⟩) (Nat.le_of_ble_eq_true rfl) ?_
  obtain ⟨h_7, gh7⟩ : ∃ z : Hp, z = hset h_5 a (.inr (3, [.ref b, .ref s, .null, .null, .null, .int 0, .int 0, .int 0, .int 0])) := ⟨_, rfl⟩
  refine V.hp gh7 ?_
  have gk7 : ∀ q : Nat, q ≠ a → h_7 q = h_5 q := fun q hq => by rw [gh7]; exact hset_ne hq
  have gs7 : h_7 a = some (.inr (3, [.ref b, .ref s, .null, .null, .null, .int 0, .int 0, .int 0, .int 0])) := by rw [gh7]; exact hset_eq
  refine V.run hF [(.aload_n 0, 1, .null), (.bipush 10, 2, .int (nI 10))] (pc' := 24) (L' := [some (.ref a), none]) (st' := [.int (nI 10), .ref a]) (by decide +kernel) rfl ?_
  have k4 := gk7
  have gf8 : h_7 b = some (.inl (1, 8, .inl (fun _ => 0))) := (gk7 b (by first | assumption | exact Ne.symm (by assumption) | omega)).trans ((gk5 b (by first | assumption | exact Ne.symm (by assumption) | omega)).trans gf4)
  have gf9 : h_7 s = some (.inl (3, 8, .inr (.inr (.inr (.inr (fun _ => none)))))) := (gk7 s (by first | assumption | exact Ne.symm (by assumption) | omega)).trans gs5
  refine V.newa (aty := .int) (t := 0) (N := 10) (a0 := (10, .inl (fun _ => 0))) hG hF (by decide) rfl tw_arr_0.1 (by decide +kernel) (by decide) (by decide) (by decide) (fun _ => rfl) (fun e hq_e => ?_)
  have ne_a_e : a ≠ e := ne_new gs7 hq_e
  have ne_b_e : b ≠ e := ne_new gf8 hq_e
  have ne_s_e : s ≠ e := ne_new gf9 hq_e
  obtain ⟨h_10, gh10⟩ : ∃ z : Hp, z = hset h_7 e (.inl (0, 10, .inl (fun _ => 0))) := ⟨_, rfl⟩
  refine V.hp gh10 ?_
  have gk10 : ∀ q : Nat, q ≠ e → h_10 q = h_7 q := fun q hq => by rw [gh10]; exact hset_ne hq
  have gs10 : h_10 e = some (.inl (0, 10, .inl (fun _ => 0))) := by rw [gh10]; exact hset_eq
  have k5 := gk10
  have gf11 : h_10 a = some (.inr (3, [.ref b, .ref s, .null, .null, .null, .int 0, .int 0, .int 0, .int 0])) := (gk10 a (by first | assumption | exact Ne.symm (by assumption) | omega)).trans gs7
  refine V.putF hG hF ko_RX3_19 hN (by decide +kernel) gf11 (fun C T N hc => by cases hc; exact ⟨rfl, rfl, (.array .int), by decide +kernel, rfl, rfl⟩) (Nat.le_of_ble_eq_true rfl) ?_
  obtain ⟨h_12, gh12⟩ : ∃ z : Hp, z = hset h_10 a (.inr (3, [.ref b, .ref s, .ref e, .null, .null, .int 0, .int 0, .int 0, .int 0])) := ⟨_, rfl⟩
  refine V.hp gh12 ?_
  have gk12 : ∀ q : Nat, q ≠ a → h_12 q = h_10 q := fun q hq => by rw [gh12]; exact hset_ne hq
  have gs12 : h_12 a = some (.inr (3, [.ref b, .ref s, .ref e, .null, .null, .int 0, .int 0, .int 0, .int 0])) := by rw [gh12]; exact hset_eq
  refine V.run hF [(.aload_n 0, 1, .null)] (pc' := 30) (L' := [some (.ref a), none]) (st' := [.ref a]) (by decide +kernel) rfl ?_
  have k6 := gk12
  have gf13 : h_12 b = some (.inl (1, 8, .inl (fun _ => 0))) := (gk12 b (by first | assumption | exact Ne.symm (by assumption) | omega)).trans ((gk10 b (by first | assumption | exact Ne.symm (by assumption) | omega)).trans gf8)
  have gf14 : h_12 s = some (.inl (3, 8, .inr (.inr (.inr (.inr (fun _ => none)))))) := (gk12 s (by first | assumption | exact Ne.symm (by assumption) | omega)).trans ((gk10 s (by first | assumption | exact Ne.symm (by assumption) | omega)).trans gf9)
  have gf15 : h_12 e = some (.inl (0, 10, .inl (fun _ => 0))) := (gk12 e (by first | assumption | exact Ne.symm (by assumption) | omega)).trans gs10
  refine V.new hG hF k_RX3_23 (by decide +kernel) (fun g hq_g => ?_)
  have ne_a_g : a ≠ g := ne_new gs12 hq_g
  have ne_b_g : b ≠ g := ne_new gf13 hq_g
  have ne_s_g : s ≠ g := ne_new gf14 hq_g
  have ne_e_g : e ≠ g := ne_new gf15 hq_g
  obtain ⟨h_16, gh16⟩ : ∃ z : Hp, z = hset h_12 g (.inr (1, [.null, .null])) := ⟨_, rfl⟩
  refine V.hp gh16 ?_
  have gk16 : ∀ q : Nat, q ≠ g → h_16 q = h_12 q := fun q hq => by rw [gh16]; exact hset_ne hq
  have gs16 : h_16 g = some (.inr (1, [.null, .null])) := by rw [gh16]; exact hset_eq
  have k7 := gk16
  have gf17 : h_16 a = some (.inr (3, [.ref b, .ref s, .ref e, .null, .null, .int 0, .int 0, .int 0, .int 0])) := (gk16 a (by first | assumption | exact Ne.symm (by assumption) | omega)).trans gs12
  have ha3 := gf17
  have gf18 : h_16 b = some (.inl (1, 8, .inl (fun _ => 0))) := (gk16 b (by first | assumption | exact Ne.symm (by assumption) | omega)).trans gf13
  have hb3 := gf18
  have gf19 : h_16 s = some (.inl (3, 8, .inr (.inr (.inr (.inr (fun _ => none)))))) := (gk16 s (by first | assumption | exact Ne.symm (by assumption) | omega)).trans gf14
  have hs3 := gf19
  have gf20 : h_16 e = some (.inl (0, 10, .inl (fun _ => 0))) := (gk16 e (by first | assumption | exact Ne.symm (by assumption) | omega)).trans gf15
  have he3 := gf20
  refine V.run hF [(.dup, 1, .null)] (pc' := 34) (L' := [some (.ref a), none]) (st' := [.ref g, .ref g, .ref a]) (by decide +kernel) rfl ?_
  refine V.callI (As := []) (st := [.ref g, .ref a]) hG hF k_RX3_25 (by decide +kernel) (c_X1_init hG gs16) rfl ⟨by rw [hRm]; decide, by rw [hRm]; decide⟩ (Nat.le_of_ble_eq_true rfl) rfl (fun v h8 hp => ?_)
  obtain ⟨rfl, ba, nl, nd, nc, nm, nw, hS, h6, ⟨f1, f2, f3, f4, f5, f6⟩, -, -, hk⟩ := hp
  have F1 : ∀ x ∈ [ba, nl, nd, nc, nm, nw], a ≠ x ∧ b ≠ x ∧ s ≠ x ∧ e ≠ x := by
    intro x hx
    have hn : h_16 x = none := by
      simp only [List.mem_cons, List.not_mem_nil, or_false] at hx
      rcases hx with rfl | rfl | rfl | rfl | rfl | rfl <;> assumption
    exact ⟨ne_new ha3 hn, ne_new hb3 hn, ne_new hs3 hn, ne_new he3 hn⟩
  have kg : ∀ x, x ≠ g → (∀ y ∈ [ba, nl, nd, nc, nm, nw], x ≠ y) → h8 x = h_16 x := fun x e0 e1 => hk x e0 (e1 _ (by simp)) (e1 _ (by simp)) (e1 _ (by simp)) (e1 _ (by simp)) (e1 _ (by simp)) (e1 _ (by simp))
  have ha4 := (kg a ne_a_g (fun y hy => (F1 y hy).1)).trans ha3
  have hb4 := (kg b ne_b_g (fun y hy => (F1 y hy).2.1)).trans hb3
  have hs4 := (kg s ne_s_g (fun y hy => (F1 y hy).2.2.1)).trans hs3
  have he4 := (kg e ne_e_g (fun y hy => (F1 y hy).2.2.2)).trans he3
  show V G F _ _ _ 37 [some (.ref a), none] [.ref g, .ref a] h8
  refine V.putF hG hF ko_RX3_26 hN (by decide +kernel) ha4 (fun C T N hc => by cases hc; exact ⟨rfl, rfl, (.object "TallyWax$Smoothing"), by decide +kernel, rfl, rfl⟩) (Nat.le_of_ble_eq_true rfl) ?_
  obtain ⟨h_22, gh22⟩ : ∃ z : Hp, z = hset h8 a (.inr (3, [.ref b, .ref s, .ref e, .ref g, .null, .int 0, .int 0, .int 0, .int 0])) := ⟨_, rfl⟩
  refine V.hp gh22 ?_
  have gk22 : ∀ q : Nat, q ≠ a → h_22 q = h8 q := fun q hq => by rw [gh22]; exact hset_ne hq
  have gs22 : h_22 a = some (.inr (3, [.ref b, .ref s, .ref e, .ref g, .null, .int 0, .int 0, .int 0, .int 0])) := by rw [gh22]; exact hset_eq
  refine V.run hF [(.aload_n 0, 1, .null), (.bipush 8, 2, .int (nI 8))] (pc' := 43) (L' := [some (.ref a), none]) (st' := [.int (nI 8), .ref a]) (by decide +kernel) rfl ?_
  have k8 := gk22
  have hb5 := (gk22 b (Ne.symm ne_a_b)).trans hb4
  have hs5 := (gk22 s (Ne.symm ne_a_s)).trans hs4
  have he5 := (gk22 e (Ne.symm ne_a_e)).trans he4
  have F2 : ∀ x ∈ [ba, nl, nd, nc, nm, nw], g ≠ x := by
    obtain ⟨n1, n2, n3, n4, n5, n6⟩ := hS.ne
    intro x hx
    simp only [List.mem_cons, List.not_mem_nil, or_false] at hx
    rcases hx with rfl | rfl | rfl | rfl | rfl | rfl <;> assumption
  have F3 : ∀ x ∈ [ba, nl, nd, nc, nm, nw], h x = none := by
    intro x hx
    have hn : h_16 x = none := by
      simp only [List.mem_cons, List.not_mem_nil, or_false] at hx
      rcases hx with rfl | rfl | rfl | rfl | rfl | rfl <;> assumption
    obtain ⟨x1, x2, x3, x4⟩ := F1 x hx
    rw [← k1 x (Ne.symm x2), ← k2 x (Ne.symm x1), ← k3 x (Ne.symm x3), ← k4 x (Ne.symm x1), ← k5 x (Ne.symm x4), ← k6 x (Ne.symm x1), ← k7 x (Ne.symm (F2 x hx))]
    exact hn
  obtain ⟨S1, S2, S3⟩ := hS
  have hS5 : SMc h_22 g ba nl nd nc nm nw PS0 := ⟨(gk22 _ (Ne.symm ne_a_g)).trans S1, (gk22 _ (Ne.symm (F1 ba (by simp)).1)).trans S2, S3.mv (fun q hq => gk22 _ (Ne.symm (F1 q (List.mem_cons_of_mem _ hq)).1))⟩
  have hll := S3.nd h6.2
  have ha5 := gs22
  refine V.newa (aty := .int) (t := 0) (N := 8) (a0 := (8, .inl (fun _ => 0))) hG hF (by decide) rfl tw_arr_0.1 (by decide +kernel) (by decide) (by decide) (by decide) (fun _ => rfl) (fun r hq_r => ?_)
  have ne_a_r : a ≠ r := ne_new gs22 hq_r
  obtain ⟨h_23, gh23⟩ : ∃ z : Hp, z = hset h_22 r (.inl (0, 8, .inl (fun _ => 0))) := ⟨_, rfl⟩
  refine V.hp gh23 ?_
  have gk23 : ∀ q : Nat, q ≠ r → h_23 q = h_22 q := fun q hq => by rw [gh23]; exact hset_ne hq
  have gs23 : h_23 r = some (.inl (0, 8, .inl (fun _ => 0))) := by rw [gh23]; exact hset_eq
  have k9 := gk23
  obtain ⟨S1, S2, S3, S4, S5, S6, S7⟩ := id hS5
  have F4 : ∀ x ∈ [a, b, s, e, g, ba, nl, nd, nc, nm, nw], x ≠ r := by
    intro x hx
    simp only [List.mem_cons, List.not_mem_nil, or_false] at hx
    rcases hx with rfl | rfl | rfl | rfl | rfl | rfl | rfl | rfl | rfl | rfl | rfl
    · exact ne_new ha5 hq_r
    · exact ne_new hb5 hq_r
    · exact ne_new hs5 hq_r
    · exact ne_new he5 hq_r
    · exact ne_new S1 hq_r
    · exact ne_new S2 hq_r
    · exact ne_new S3 hq_r
    · exact ne_new S4 hq_r
    · exact ne_new S5 hq_r
    · exact ne_new S6 hq_r
    · exact ne_new S7 hq_r
  have gf24 : h_23 a = some (.inr (3, [.ref b, .ref s, .ref e, .ref g, .null, .int 0, .int 0, .int 0, .int 0])) := (gk23 a (by first | assumption | exact Ne.symm (by assumption) | omega)).trans gs22
  refine V.putF hG hF ko_RX3_30 hN (by decide +kernel) gf24 (fun C T N hc => by cases hc; exact ⟨rfl, rfl, (.array .int), by decide +kernel, rfl, rfl⟩) (Nat.le_of_ble_eq_true rfl) ?_
  obtain ⟨h_25, gh25⟩ : ∃ z : Hp, z = hset h_23 a (.inr (3, [.ref b, .ref s, .ref e, .ref g, .ref r, .int 0, .int 0, .int 0, .int 0])) := ⟨_, rfl⟩
  refine V.hp gh25 ?_
  have gk25 : ∀ q : Nat, q ≠ a → h_25 q = h_23 q := fun q hq => by rw [gh25]; exact hset_ne hq
  have gs25 : h_25 a = some (.inr (3, [.ref b, .ref s, .ref e, .ref g, .ref r, .int 0, .int 0, .int 0, .int 0])) := by rw [gh25]; exact hset_eq
  have k10 := gk25
  have gf26 : h_25 r = some (.inl (0, 8, .inl (fun _ => 0))) := (gk25 r (by first | assumption | exact Ne.symm (by assumption) | omega)).trans gs23
  have r6 := gf26
  have a6 := gs25
  have T : ∀ x, x ≠ r → x ≠ a → h_25 x = h_22 x := fun x e1 e2 => (k10 x e2).trans (k9 x e1)
  have hb6 := (T b (F4 b (by simp)) (Ne.symm ne_a_b)).trans hb5
  have hs6 := (T s (F4 s (by simp)) (Ne.symm ne_a_s)).trans hs5
  have he6 := (T e (F4 e (by simp)) (Ne.symm ne_a_e)).trans he5
  have hS6 : SMc h_25 g ba nl nd nc nm nw PS0 := ⟨(T _ (F4 g (by simp)) (Ne.symm ne_a_g)).trans hS5.1, (T _ (F4 ba (by simp)) (Ne.symm (F1 ba (by simp)).1)).trans hS5.2.1, hS5.2.2.mv (fun q hq => T _ (F4 q (List.mem_append_right [a, b, s, e, g, ba] hq)) (Ne.symm (F1 q (List.mem_cons_of_mem _ hq)).1))⟩
  have KP : ∀ x, (∀ y ∈ [a, b, s, e, g, r, ba, nl, nd, nc, nm, nw], x ≠ y) → h_25 x = h x := fun x hx => by
    rw [k10 x (hx a (by simp)), k9 x (hx r (by simp)), k8 x (hx a (by simp)), kg x (hx g (by simp)) (fun y hy => hx y (List.mem_append_right [a, b, s, e, g, r] hy)), k7 x (hx g (by simp)), k6 x (hx a (by simp)), k5 x (hx e (by simp)), k4 x (hx a (by simp)), k3 x (hx s (by simp)), k2 x (hx a (by simp)), k1 x (hx b (by simp))]
  obtain ⟨hZ, hhZ⟩ : ∃ z : Hp, z = h_25 := ⟨_, rfl⟩
  rw [← hhZ] at hb6 hs6 he6 hS6 KP r6 a6 ⊢
  obtain ⟨AA, hAA⟩ : ∃ A : Nat → Nat, A = li12 [a, b, s, e, g, r, ba, nl, nd, nc, nm, nw] := ⟨_, rfl⟩
  have nod : List.Nodup [a, b, s, e, g, r, ba, nl, nd, nc, nm, nw] := by
    simp only [List.nodup_cons, List.mem_cons, not_or, List.not_mem_nil, not_false_eq_true, List.nodup_nil, and_true]
    simp only [List.mem_cons, List.not_mem_nil, or_false, forall_eq_or_imp, forall_eq] at F1 F2 F4
    obtain ⟨⟨n1, n2, n3, n4, n5⟩, m1, m2, m3, m4, m5, m6⟩ := h6
    obtain ⟨⟨l1, l2, l3, l4⟩, -⟩ := hll
    obtain ⟨⟨u1, u2, u3, u4⟩, ⟨u5, u6, u7, u8⟩, ⟨u9, u10, u11, u12⟩, ⟨u13, u14, u15, u16⟩, ⟨u17, u18, u19, u20⟩, u21, u22, u23, u24⟩ := F1
    obtain ⟨w1, w2, w3, w4, w5, w6⟩ := F2
    obtain ⟨z1, z2, z3, z4, z5, z6, z7, z8, z9, z10, z11⟩ := F4
    and_intros <;> first | assumption | exact Ne.symm (by assumption)
  have hInj : Inj AA 12 := by rw [hAA]; exact li_inj nod
  have fin0 : ∀ h1 : Hp, h1 b = some (.inl (1, 8, .inl (mxk 8 (fun _ => 1) (fun _ => 0)))) → (∀ x, x ≠ b → h1 x = hZ x) → ∃ A : Nat → Nat, A 0 = a ∧ CS h1 A S0 PS0 (fun _ => 0) ∧ (∀ i, 0 < i → i < 12 → h (A i) = none) ∧ kpC h h1 A 12 := by
    intro h1 e1 e2
    have es : shf AA (gT S0) = fun _ => none := by
      funext t
      exact shf_out (Nat.not_lt_zero t)
    have nb : ∀ x ∈ [ba, nl, nd, nc, nm, nw], x ≠ b := fun x hx => Ne.symm (F1 x hx).2.1
    have c0 := (e2 a ne_a_b).trans a6
    have c2 := (e2 s (Ne.symm ne_b_s)).trans hs6
    have c3 := (e2 e (Ne.symm ne_b_e)).trans he6
    have c4 : SMc h1 g ba nl nd nc nm nw PS0 := ⟨(e2 g (Ne.symm ne_b_g)).trans hS6.1, (e2 ba (nb _ (by simp))).trans hS6.2.1, hS6.2.2.mv (fun q hq => e2 q (nb q (List.mem_cons_of_mem _ hq)))⟩
    have c5 := (e2 r (Ne.symm (F4 b (by simp)))).trans r6
    have f1 : h b = none := hq_b
    have f2 : h s = none := by rw [← k1 s (Ne.symm ne_b_s), ← k2 s (Ne.symm ne_a_s)]; exact hq_s
    have f3 : h e = none := by rw [← k1 e (Ne.symm ne_b_e), ← k2 e (Ne.symm ne_a_e), ← k3 e (Ne.symm ne_s_e), ← k4 e (Ne.symm ne_a_e)]; exact hq_e
    have f4 : h g = none := by rw [← k1 g (Ne.symm ne_b_g), ← k2 g (Ne.symm ne_a_g), ← k3 g (Ne.symm ne_s_g), ← k4 g (Ne.symm ne_a_g), ← k5 g (Ne.symm ne_e_g), ← k6 g (Ne.symm ne_a_g)]; exact hq_g
    have f5 : h r = none := by
      have na := Ne.symm (F4 a (by simp))
      rw [← k1 r (Ne.symm (F4 b (by simp))), ← k2 r na, ← k3 r (Ne.symm (F4 s (by simp))), ← k4 r na, ← k5 r (Ne.symm (F4 e (by simp))), ← k6 r na, ← k7 r (Ne.symm (F4 g (by simp))), ← kg r (Ne.symm (F4 g (by simp))) (fun y hy => Ne.symm (F4 y (List.mem_append_right [a, b, s, e, g] hy))), ← k8 r na]
      exact hq_r
    subst hAA
    refine ⟨_, rfl, ⟨hInj, Nat.zero_le _, c0, e1, by rw [es]; exact c2, c3, c4, c5, fun t ht => absurd ht (Nat.not_lt_zero t)⟩, ?_, ?_⟩
    · intro i h0 h12
      have : i = 1 ∨ i = 2 ∨ i = 3 ∨ i = 4 ∨ i = 5 ∨ i = 6 ∨ i = 7 ∨ i = 8 ∨ i = 9 ∨ i = 10 ∨ i = 11 := by omega
      rcases this with rfl | rfl | rfl | rfl | rfl | rfl | rfl | rfl | rfl | rfl | rfl
      · exact f1
      · exact f2
      · exact f3
      · exact f4
      · exact f5
      · exact F3 ba (by simp)
      · exact F3 nl (by simp)
      · exact F3 nd (by simp)
      · exact F3 nc (by simp)
      · exact F3 nm (by simp)
      · exact F3 nw (by simp)
    · intro q hq
      refine (e2 q (hq 1 (by decide))).trans (KP q (fun y hy => ?_))
      simp only [List.mem_cons, List.not_mem_nil, or_false] at hy
      rcases hy with rfl | rfl | rfl | rfl | rfl | rfl | rfl | rfl | rfl | rfl | rfl | rfl
      · exact hq 0 (by decide)
      · exact hq 1 (by decide)
      · exact hq 2 (by decide)
      · exact hq 3 (by decide)
      · exact hq 4 (by decide)
      · exact hq 5 (by decide)
      · exact hq 6 (by decide)
      · exact hq 7 (by decide)
      · exact hq 8 (by decide)
      · exact hq 9 (by decide)
      · exact hq 10 (by decide)
      · exact hq 11 (by decide)
  have loop : ∀ k, k ≤ 8 → ∀ h1 : Hp, h1 b = some (.inl (1, 8, .inl (mxk k (fun _ => 1) (fun _ => 0)))) → (∀ x, x ≠ b → h1 x = hZ x) → V G F (fin G F (is_v fun h' => ∃ A : Nat → Nat, A 0 = a ∧ CS h' A S0 PS0 (fun _ => 0) ∧ (∀ i, 0 < i → i < 12 → h (A i) = none) ∧ kpC h h' A 12) pxN) 0 0 50 [some (.ref a), some (.int (nI k))] [] h1 := by
    refine lp_up 8 fun k hk ih => ?_
    intro h1 e1 e2
    have e3 := (e2 a ne_a_b).trans a6
    refine V.run hF [(.iload_n 1, 1, .null), (.bipush 8, 2, .int (nI 8))] (pc' := 53) (L' := [some (.ref a), some (.int (nI k))]) (st' := [.int (nI 8), .int (nI k)]) (by decide +kernel) rfl ?_
    refine V.icmpN_ge (i := k) (j := 8) hF (off := 16) (tgt := 69) (by decide +kernel) (by decide) (by omega) (by omega) (fun c1 => ?_) (fun c1 => ?_)
    · have e : k = 8 := by omega
      rw [e] at e1
      exact V.retv hF (by decide +kernel) ⟨rfl, fin0 h1 e1 e2⟩
    · skip
      refine V.run hF [(.aload_n 0, 1, .null)] (pc' := 57) (L' := [some (.ref a), some (.int (nI k))]) (st' := [.ref a]) (by decide +kernel) rfl ?_
      refine V.getf hG hF k_RX3_9 (by decide +kernel) e3 rfl ?_
      refine V.run hF [(.iload_n 1, 1, .null), (.iconst 1, 1, .int 1)] (pc' := 62) (L' := [some (.ref a), some (.int (nI k))]) (st' := [.int 1, .int (nI k), .ref b]) (by decide +kernel) rfl ?_
      refine V.zastN (j := k) hG hF (by decide +kernel) e1 (by omega) (by decide) (nz (Or.inr rfl)) ?_
      obtain ⟨h_27, gh27⟩ : ∃ z : Hp, z = hset h1 b (.inl (1, 8, .inl (upd (mxk k (fun _ => 1) (fun _ => 0)) k 1))) := ⟨_, rfl⟩
      refine V.hp gh27 ?_
      have gk27 : ∀ q : Nat, q ≠ b → h_27 q = h1 q := fun q hq => by rw [gh27]; exact hset_ne hq
      have gs27 : h_27 b = some (.inl (1, 8, .inl (upd (mxk k (fun _ => 1) (fun _ => 0)) k 1))) := by rw [gh27]; exact hset_eq
      refine V.run hF [(.iinc 1 1, 3, .int 1), (.goto (-16), 3, .null)] (pc' := 50) (L' := [some (.ref a), some (.int ((nI k) + 1))]) (st' := []) (by decide +kernel) rfl ?_
      rw [nI_1 k]
      exact ih c1 h_27 (gs27.trans (by rw [← mxk_s])) (fun x hx => (gk27 x hx).trans (e2 x hx))
  refine V.run hF [(.iconst 0, 1, .int (nI 0)), (.istore_n 1, 1, .null)] (pc' := 50) (L' := [some (.ref a), some (.int (nI 0))]) (st' := []) (by decide +kernel) rfl ?_
  exact loop 0 (Nat.zero_le _) hZ (by rw [mxk_0]; exact hb6) (fun _ _ => rfl)
end Iy
