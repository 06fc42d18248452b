/-! ===== TallyWaxLaw$Sim: its constructor, melts, pass, total ===== -/
abbrev ql (q : QA) (la : Nat → Nat) (rr : Nat → Nat → Nat) : QA := (q.1, qtr q, la, rr)
theorem nR_O {i : Nat} {vs : List Value} : nR (.inr (i, vs)) := ⟨nofun, nofun⟩
section So
variable {G : Gt} {h : Hp}
set_option maxHeartbeats 4000000 in
theorem c_X4_init (hG : GOk G) {a : Nat} (hA : h a = some (.inr (4, [.null, .null, .null, .null, .int 0, .int 0, .int 0]))) :
    Ct G yX4_init (.code yX4_init cX4_init 1 none) 1 12 12 26 [.ref a] h (is_v fun h' => ∃ q : QA, qo q = a ∧ SM h' q S0 ∧ h (qth q) = none ∧ h (qhe q) = none ∧ Exw a h h') pxN := by
  refine Ct.of (by decide +kernel) (Nat.le_of_ble_eq_true rfl) fun F hF hT hN hRm => ?_
  refine V.run hF [(.aload_n 0, 1, .null)] (pc' := 1) (L' := [some (.ref a)]) (st' := [.ref a]) (by decide +kernel) rfl ?_
  refine V.objInit hG hF tw_555 tw_oi1 tw_oi2 (by decide +kernel) ⟨by rw [hRm]; decide, by rw [hRm]; decide⟩ ?_
  refine V.run hF [(.aload_n 0, 1, .null), (.bipush 8, 2, .int (nI 8))] (pc' := 7) (L' := [some (.ref a)]) (st' := [.int (nI 8), .ref a]) (by decide +kernel) rfl ?_
  refine V.less (kc' := 11 + 1) (ks' := 18 + 8) (by decide) (by decide) ?_
  refine V.newa (aty := .boolean) (t := 1) (N := 8) (a0 := (8, .inl (fun _ => 0))) hG hF (by decide) rfl tw_arr_1.1 (by decide +kernel) (by decide) (by decide) (by decide) (fun _ => rfl) (fun th0 hq_th0 => ?_)
  have ne_a_th0 : a ≠ th0 := ne_new hA hq_th0
  obtain ⟨h_1, gh1⟩ : ∃ z : Hp, z = hset h th0 (.inl (1, 8, .inl (fun _ => 0))) := ⟨_, rfl⟩
  refine V.hp gh1 ?_
  have gk1 : ∀ zq : Nat, zq ≠ th0 → h_1 zq = h zq := fun zq hq => by rw [gh1]; exact hset_ne hq
  have gs1 : h_1 th0 = some (.inl (1, 8, .inl (fun _ => 0))) := by rw [gh1]; exact hset_eq
  have x1 : Ex h h_1 := Ex.new hq_th0 (fun x hx => gk1 x hx)
  refine V.run hF [(.dup, 1, .null), (.iconst 0, 1, .int (nI 0)), (.iconst 1, 1, .int 1)] (pc' := 12) (L' := [some (.ref a)]) (st' := [.int 1, .int (nI 0), .ref th0, .ref th0, .ref a]) (by decide +kernel) rfl ?_
  refine V.zastN (j := 0) hG hF (by decide +kernel) gs1 (by omega) (by first | decide | omega) rfl ?_
  obtain ⟨h_2, gh2⟩ : ∃ z : Hp, z = hset h_1 th0 (.inl (1, 8, .inl (upd (fun _ => 0) 0 1))) := ⟨_, rfl⟩
  refine V.hp gh2 ?_
  have gk2 : ∀ zq : Nat, zq ≠ th0 → h_2 zq = h_1 zq := fun zq hq => by rw [gh2]; exact hset_ne hq
  have gs2 : h_2 th0 = some (.inl (1, 8, .inl (upd (fun _ => 0) 0 1))) := by rw [gh2]; exact hset_eq
  refine V.run hF [(.dup, 1, .null), (.iconst 1, 1, .int (nI 1)), (.iconst 1, 1, .int 1)] (pc' := 16) (L' := [some (.ref a)]) (st' := [.int 1, .int (nI 1), .ref th0, .ref th0, .ref a]) (by decide +kernel) rfl ?_
  refine V.zastN (j := 1) hG hF (by decide +kernel) gs2 (by omega) (by first | decide | omega) rfl ?_
  obtain ⟨h_3, gh3⟩ : ∃ z : Hp, z = hset h_2 th0 (.inl (1, 8, .inl (upd (upd (fun _ => 0) 0 1) 1 1))) := ⟨_, rfl⟩
  refine V.hp gh3 ?_
  have gk3 : ∀ zq : Nat, zq ≠ th0 → h_3 zq = h_2 zq := fun zq hq => by rw [gh3]; exact hset_ne hq
  have gs3 : h_3 th0 = some (.inl (1, 8, .inl (upd (upd (fun _ => 0) 0 1) 1 1))) := by rw [gh3]; exact hset_eq
  refine V.run hF [(.dup, 1, .null), (.iconst 2, 1, .int (nI 2)), (.iconst 1, 1, .int 1)] (pc' := 20) (L' := [some (.ref a)]) (st' := [.int 1, .int (nI 2), .ref th0, .ref th0, .ref a]) (by decide +kernel) rfl ?_
  refine V.zastN (j := 2) hG hF (by decide +kernel) gs3 (by omega) (by first | decide | omega) rfl ?_
  obtain ⟨h_4, gh4⟩ : ∃ z : Hp, z = hset h_3 th0 (.inl (1, 8, .inl (upd (upd (upd (fun _ => 0) 0 1) 1 1) 2 1))) := ⟨_, rfl⟩
  refine V.hp gh4 ?_
  have gk4 : ∀ zq : Nat, zq ≠ th0 → h_4 zq = h_3 zq := fun zq hq => by rw [gh4]; exact hset_ne hq
  have gs4 : h_4 th0 = some (.inl (1, 8, .inl (upd (upd (upd (fun _ => 0) 0 1) 1 1) 2 1))) := by rw [gh4]; exact hset_eq
  refine V.run hF [(.dup, 1, .null), (.iconst 3, 1, .int (nI 3)), (.iconst 1, 1, .int 1)] (pc' := 24) (L' := [some (.ref a)]) (st' := [.int 1, .int (nI 3), .ref th0, .ref th0, .ref a]) (by decide +kernel) rfl ?_
  refine V.zastN (j := 3) hG hF (by decide +kernel) gs4 (by omega) (by first | decide | omega) rfl ?_
  obtain ⟨h_5, gh5⟩ : ∃ z : Hp, z = hset h_4 th0 (.inl (1, 8, .inl (upd (upd (upd (upd (fun _ => 0) 0 1) 1 1) 2 1) 3 1))) := ⟨_, rfl⟩
  refine V.hp gh5 ?_
  have gk5 : ∀ zq : Nat, zq ≠ th0 → h_5 zq = h_4 zq := fun zq hq => by rw [gh5]; exact hset_ne hq
  have gs5 : h_5 th0 = some (.inl (1, 8, .inl (upd (upd (upd (upd (fun _ => 0) 0 1) 1 1) 2 1) 3 1))) := by rw [gh5]; exact hset_eq
  refine V.run hF [(.dup, 1, .null), (.iconst 4, 1, .int (nI 4)), (.iconst 1, 1, .int 1)] (pc' := 28) (L' := [some (.ref a)]) (st' := [.int 1, .int (nI 4), .ref th0, .ref th0, .ref a]) (by decide +kernel) rfl ?_
  refine V.zastN (j := 4) hG hF (by decide +kernel) gs5 (by omega) (by first | decide | omega) rfl ?_
  obtain ⟨h_6, gh6⟩ : ∃ z : Hp, z = hset h_5 th0 (.inl (1, 8, .inl (upd (upd (upd (upd (upd (fun _ => 0) 0 1) 1 1) 2 1) 3 1) 4 1))) := ⟨_, rfl⟩
  refine V.hp gh6 ?_
  have gk6 : ∀ zq : Nat, zq ≠ th0 → h_6 zq = h_5 zq := fun zq hq => by rw [gh6]; exact hset_ne hq
  have gs6 : h_6 th0 = some (.inl (1, 8, .inl (upd (upd (upd (upd (upd (fun _ => 0) 0 1) 1 1) 2 1) 3 1) 4 1))) := by rw [gh6]; exact hset_eq
  refine V.run hF [(.dup, 1, .null), (.iconst 5, 1, .int (nI 5)), (.iconst 1, 1, .int 1)] (pc' := 32) (L' := [some (.ref a)]) (st' := [.int 1, .int (nI 5), .ref th0, .ref th0, .ref a]) (by decide +kernel) rfl ?_
  refine V.zastN (j := 5) hG hF (by decide +kernel) gs6 (by omega) (by first | decide | omega) rfl ?_
  obtain ⟨h_7, gh7⟩ : ∃ z : Hp, z = hset h_6 th0 (.inl (1, 8, .inl (upd (upd (upd (upd (upd (upd (fun _ => 0) 0 1) 1 1) 2 1) 3 1) 4 1) 5 1))) := ⟨_, rfl⟩
  refine V.hp gh7 ?_
  have gk7 : ∀ zq : Nat, zq ≠ th0 → h_7 zq = h_6 zq := fun zq hq => by rw [gh7]; exact hset_ne hq
  have gs7 : h_7 th0 = some (.inl (1, 8, .inl (upd (upd (upd (upd (upd (upd (fun _ => 0) 0 1) 1 1) 2 1) 3 1) 4 1) 5 1))) := by rw [gh7]; exact hset_eq
  refine V.run hF [(.dup, 1, .null), (.bipush 6, 2, .int (nI 6)), (.iconst 1, 1, .int 1)] (pc' := 37) (L' := [some (.ref a)]) (st' := [.int 1, .int (nI 6), .ref th0, .ref th0, .ref a]) (by decide +kernel) rfl ?_
  refine V.zastN (j := 6) hG hF (by decide +kernel) gs7 (by omega) (by first | decide | omega) rfl ?_
  obtain ⟨h_8, gh8⟩ : ∃ z : Hp, z = hset h_7 th0 (.inl (1, 8, .inl (upd (upd (upd (upd (upd (upd (upd (fun _ => 0) 0 1) 1 1) 2 1) 3 1) 4 1) 5 1) 6 1))) := ⟨_, rfl⟩
  refine V.hp gh8 ?_
  have gk8 : ∀ zq : Nat, zq ≠ th0 → h_8 zq = h_7 zq := fun zq hq => by rw [gh8]; exact hset_ne hq
  have gs8 : h_8 th0 = some (.inl (1, 8, .inl (upd (upd (upd (upd (upd (upd (upd (fun _ => 0) 0 1) 1 1) 2 1) 3 1) 4 1) 5 1) 6 1))) := by rw [gh8]; exact hset_eq
  refine V.run hF [(.dup, 1, .null), (.bipush 7, 2, .int (nI 7)), (.iconst 1, 1, .int 1)] (pc' := 42) (L' := [some (.ref a)]) (st' := [.int 1, .int (nI 7), .ref th0, .ref th0, .ref a]) (by decide +kernel) rfl ?_
  refine V.zastN (j := 7) hG hF (by decide +kernel) gs8 (by omega) (by first | decide | omega) rfl ?_
  obtain ⟨h_9, gh9⟩ : ∃ z : Hp, z = hset h_8 th0 (.inl (1, 8, .inl (upd (upd (upd (upd (upd (upd (upd (upd (fun _ => 0) 0 1) 1 1) 2 1) 3 1) 4 1) 5 1) 6 1) 7 1))) := ⟨_, rfl⟩
  refine V.hp gh9 ?_
  have gk9 : ∀ zq : Nat, zq ≠ th0 → h_9 zq = h_8 zq := fun zq hq => by rw [gh9]; exact hset_ne hq
  have gs9 : h_9 th0 = some (.inl (1, 8, .inl (upd (upd (upd (upd (upd (upd (upd (upd (fun _ => 0) 0 1) 1 1) 2 1) 3 1) 4 1) 5 1) 6 1) 7 1))) := by rw [gh9]; exact hset_eq
  refine V.extI (g := mxk 8 (fun _ => 1) (fun _ => 0)) gs9 (fun j hj => by rcases (show j = 0 ∨ j = 1 ∨ j = 2 ∨ j = 3 ∨ j = 4 ∨ j = 5 ∨ j = 6 ∨ j = 7 by omega) with rfl | rfl | rfl | rfl | rfl | rfl | rfl | rfl <;> rfl) ?_
  obtain ⟨h_10, gh10⟩ : ∃ z : Hp, z = hset h_9 th0 (.inl (1, 8, .inl (mxk 8 (fun _ => 1) (fun _ => 0)))) := ⟨_, rfl⟩
  refine V.hp gh10 ?_
  have gk10 : ∀ zq : Nat, zq ≠ th0 → h_10 zq = h_9 zq := fun zq hq => by rw [gh10]; exact hset_ne hq
  have gs10 : h_10 th0 = some (.inl (1, 8, .inl (mxk 8 (fun _ => 1) (fun _ => 0)))) := by rw [gh10]; exact hset_eq
  have x2 : Exw a h h_10 := fun x c hc hx => by
    have n := ne_new hc hq_th0
    rw [gk10 x n, gk9 x n, gk8 x n, gk7 x n, gk6 x n, gk5 x n, gk4 x n, gk3 x n, gk2 x n]
    exact x1 x c hc
  have gf11 : h_10 a = some (.inr (4, [.null, .null, .null, .null, .int 0, .int 0, .int 0])) := (gk10 a (by first | assumption | exact Ne.symm (by assumption) | omega)).trans ((gk9 a (by first | assumption | exact Ne.symm (by assumption) | omega)).trans ((gk8 a (by first | assumption | exact Ne.symm (by assumption) | omega)).trans ((gk7 a (by first | assumption | exact Ne.symm (by assumption) | omega)).trans ((gk6 a (by first | assumption | exact Ne.symm (by assumption) | omega)).trans ((gk5 a (by first | assumption | exact Ne.symm (by assumption) | omega)).trans ((gk4 a (by first | assumption | exact Ne.symm (by assumption) | omega)).trans ((gk3 a (by first | assumption | exact Ne.symm (by assumption) | omega)).trans ((gk2 a (by first | assumption | exact Ne.symm (by assumption) | omega)).trans ((gk1 a (by first | assumption | exact Ne.symm (by assumption) | omega)).trans hA)))))))))
  refine V.putf hG hF k_RX4_7 (by decide +kernel) gf11 (fun C T N hc => by cases hc; exact ⟨rfl, (.array .boolean), by decide +kernel, rfl, rfl⟩) (Nat.le_of_ble_eq_true rfl) ?_
  obtain ⟨h_12, gh12⟩ : ∃ z : Hp, z = hset h_10 a (.inr (4, [.ref th0, .null, .null, .null, .int 0, .int 0, .int 0])) := ⟨_, rfl⟩
  refine V.hp gh12 ?_
  have gk12 : ∀ zq : Nat, zq ≠ a → h_12 zq = h_10 zq := fun zq hq => by rw [gh12]; exact hset_ne hq
  have gs12 : h_12 a = some (.inr (4, [.ref th0, .null, .null, .null, .int 0, .int 0, .int 0])) := by rw [gh12]; exact hset_eq
  have x3 : Exw a h h_12 := fun x c hc hx => by
    rw [gk12 x hx]
    exact x2 x c hc hx
  have ca1 := gs12
  refine V.run hF [(.aload_n 0, 1, .null), (.bipush 10, 2, .int (nI 10))] (pc' := 49) (L' := [some (.ref a)]) (st' := [.int (nI 10), .ref a]) (by decide +kernel) rfl ?_
  refine V.less (kc' := 10 + 1) (ks' := 8 + 10) (by decide) (by decide) ?_
  have gf13 : h_12 th0 = some (.inl (1, 8, .inl (mxk 8 (fun _ => 1) (fun _ => 0)))) := (gk12 th0 (by first | assumption | exact Ne.symm (by assumption) | omega)).trans gs10
  refine V.newa (aty := .int) (t := 0) (N := 10) (a0 := (10, .inl (fun _ => 0))) hG hF (by decide) rfl tw_arr_0.1 (by decide +kernel) (by decide) (by decide) (by decide) (fun _ => rfl) (fun he0 hq_he0 => ?_)
  have ne_a_he0 : a ≠ he0 := ne_new gs12 hq_he0
  have ne_th0_he0 : th0 ≠ he0 := ne_new gf13 hq_he0
  obtain ⟨h_14, gh14⟩ : ∃ z : Hp, z = hset h_12 he0 (.inl (0, 10, .inl (fun _ => 0))) := ⟨_, rfl⟩
  refine V.hp gh14 ?_
  have gk14 : ∀ zq : Nat, zq ≠ he0 → h_14 zq = h_12 zq := fun zq hq => by rw [gh14]; exact hset_ne hq
  have gs14 : h_14 he0 = some (.inl (0, 10, .inl (fun _ => 0))) := by rw [gh14]; exact hset_eq
  have n1 : h he0 = none := by
    cases hc : h he0 with
    | none => rfl
    | some c =>
      by_cases z : he0 = a
      · exact absurd z (Ne.symm ne_a_he0)
      · rw [x3 he0 c hc z] at hq_he0
        cases hq_he0
  have x4 : Exw a h h_14 := fun x c hc hx => by
    rw [gk14 x (ne_new hc n1)]
    exact x3 x c hc hx
  have gf15 : h_14 a = some (.inr (4, [.ref th0, .null, .null, .null, .int 0, .int 0, .int 0])) := (gk14 a (by first | assumption | exact Ne.symm (by assumption) | omega)).trans gs12
  refine V.putf hG hF k_RX4_13 (by decide +kernel) gf15 (fun C T N hc => by cases hc; exact ⟨rfl, (.array .int), by decide +kernel, rfl, rfl⟩) (Nat.le_of_ble_eq_true rfl) ?_
  obtain ⟨h_16, gh16⟩ : ∃ z : Hp, z = hset h_14 a (.inr (4, [.ref th0, .ref he0, .null, .null, .int 0, .int 0, .int 0])) := ⟨_, rfl⟩
  refine V.hp gh16 ?_
  have gk16 : ∀ zq : Nat, zq ≠ a → h_16 zq = h_14 zq := fun zq hq => by rw [gh16]; exact hset_ne hq
  have gs16 : h_16 a = some (.inr (4, [.ref th0, .ref he0, .null, .null, .int 0, .int 0, .int 0])) := by rw [gh16]; exact hset_eq
  have x5 : Exw a h h_16 := fun x c hc hx => by
    rw [gk16 x hx]
    exact x4 x c hc hx
  refine V.run hF [(.aload_n 0, 1, .null), (.iconst 0, 1, .int (nI 0))] (pc' := 56) (L' := [some (.ref a)]) (st' := [.int (nI 0), .ref a]) (by decide +kernel) rfl ?_
  refine V.less (kc' := 9 + 1) (ks' := 8 + 0) (by decide) (by decide) ?_
  have gf17 : h_16 th0 = some (.inl (1, 8, .inl (mxk 8 (fun _ => 1) (fun _ => 0)))) := (gk16 th0 (by first | assumption | exact Ne.symm (by assumption) | omega)).trans ((gk14 th0 (by first | assumption | exact Ne.symm (by assumption) | omega)).trans gf13)
  have gf18 : h_16 he0 = some (.inl (0, 10, .inl (fun _ => 0))) := (gk16 he0 (by first | assumption | exact Ne.symm (by assumption) | omega)).trans gs14
  refine V.newA (N := 0) hG hF tw_405.1 (by decide +kernel) (by omega) (fun ta0 hq_ta0 => ?_)
  have ne_a_ta0 : a ≠ ta0 := ne_new gs16 hq_ta0
  have ne_th0_ta0 : th0 ≠ ta0 := ne_new gf17 hq_ta0
  have ne_he0_ta0 : he0 ≠ ta0 := ne_new gf18 hq_ta0
  obtain ⟨h_19, gh19⟩ : ∃ z : Hp, z = hset h_16 ta0 (.inl (2, 0, .inr (.inr (.inr (.inr (fun _ => none)))))) := ⟨_, rfl⟩
  refine V.hp gh19 ?_
  have gk19 : ∀ zq : Nat, zq ≠ ta0 → h_19 zq = h_16 zq := fun zq hq => by rw [gh19]; exact hset_ne hq
  have gs19 : h_19 ta0 = some (.inl (2, 0, .inr (.inr (.inr (.inr (fun _ => none)))))) := by rw [gh19]; exact hset_eq
  have n2 : h ta0 = none := by
    cases hc : h ta0 with
    | none => rfl
    | some c =>
      by_cases z : ta0 = a
      · exact absurd z (Ne.symm ne_a_ta0)
      · rw [x5 ta0 c hc z] at hq_ta0
        cases hq_ta0
  have x6 : Exw a h h_19 := fun x c hc hx => by
    rw [gk19 x (ne_new hc n2)]
    exact x5 x c hc hx
  have gf20 : h_19 a = some (.inr (4, [.ref th0, .ref he0, .null, .null, .int 0, .int 0, .int 0])) := (gk19 a (by first | assumption | exact Ne.symm (by assumption) | omega)).trans gs16
  refine V.putf hG hF k_RX4_18 (by decide +kernel) gf20 (fun C T N hc => by cases hc; exact ⟨rfl, (.array (.array .int)), by decide +kernel, rfl, rfl⟩) (Nat.le_of_ble_eq_true rfl) ?_
  obtain ⟨h_21, gh21⟩ : ∃ z : Hp, z = hset h_19 a (.inr (4, [.ref th0, .ref he0, .ref ta0, .null, .int 0, .int 0, .int 0])) := ⟨_, rfl⟩
  refine V.hp gh21 ?_
  have gk21 : ∀ zq : Nat, zq ≠ a → h_21 zq = h_19 zq := fun zq hq => by rw [gh21]; exact hset_ne hq
  have gs21 : h_21 a = some (.inr (4, [.ref th0, .ref he0, .ref ta0, .null, .int 0, .int 0, .int 0])) := by rw [gh21]; exact hset_eq
  have x7 : Exw a h h_21 := fun x c hc hx => by
    rw [gk21 x hx]
    exact x6 x c hc hx
  refine V.run hF [(.aload_n 0, 1, .null), (.bipush 8, 2, .int (nI 8)), (.iconst 0, 1, .int (nI 0))] (pc' := 66) (L' := [some (.ref a)]) (st' := [.int (nI 0), .int (nI 8), .ref a]) (by decide +kernel) rfl ?_
  have ca := gs21
  have gf22 : h_21 th0 = some (.inl (1, 8, .inl (mxk 8 (fun _ => 1) (fun _ => 0)))) := (gk21 th0 (by first | assumption | exact Ne.symm (by assumption) | omega)).trans ((gk19 th0 (by first | assumption | exact Ne.symm (by assumption) | omega)).trans gf17)
  have ct := gf22
  have gf23 : h_21 he0 = some (.inl (0, 10, .inl (fun _ => 0))) := (gk21 he0 (by first | assumption | exact Ne.symm (by assumption) | omega)).trans ((gk19 he0 (by first | assumption | exact Ne.symm (by assumption) | omega)).trans gf18)
  have ch := gf23
  have gf24 : h_21 ta0 = some (.inl (2, 0, .inr (.inr (.inr (.inr (fun _ => none)))))) := (gk21 ta0 (by first | assumption | exact Ne.symm (by assumption) | omega)).trans gs19
  have cb := gf24
  refine V.less (kc' := 0 + (1 + 8)) (ks' := 0 + (8 + 8 * 0)) (by decide) (by decide) ?_
  refine V.grid (t := 4) (t' := 2) (n := 8) (k := 0) (a0 := (0, .inr (.inr (.inr (.inr (fun _ => none)))))) hG hF (by decide) tw_556.1 (by decide +kernel) (by decide) (by decide) (fun _ => rfl) (fun li0 h9 gqA gqB gqC gqD gqE => ?_)
  have x8 : Exw a h h9 := fun x c hc hx => gqE _ _ (x7 x c hc hx)
  refine V.putf hG hF k_RX4_24 (by decide +kernel) (gqE _ _ ca) (fun C T N hc => by cases hc; exact ⟨rfl, (.array (.array (.array .int))), by decide +kernel, rfl, rfl⟩) (Nat.le_of_ble_eq_true rfl) ?_
  obtain ⟨h_25, gh25⟩ : ∃ z : Hp, z = hset h9 a (.inr (4, [.ref th0, .ref he0, .ref ta0, .ref li0, .int 0, .int 0, .int 0])) := ⟨_, rfl⟩
  refine V.hp gh25 ?_
  have gk25 : ∀ zq : Nat, zq ≠ a → h_25 zq = h9 zq := fun zq hq => by rw [gh25]; exact hset_ne hq
  have gs25 : h_25 a = some (.inr (4, [.ref th0, .ref he0, .ref ta0, .ref li0, .int 0, .int 0, .int 0])) := by rw [gh25]; exact hset_eq
  have kk : ∀ x, x ≠ a → h_25 x = h9 x := fun x hx => gk25 x hx
  have nl : li0 ≠ a := nek gqC (gqE _ _ ca) nofun
  have SMf : SM h_25 ((a, th0, he0, ta0, li0), fun _ => 0, fun t => li0 + 1 + t, fun _ _ => 0) S0 := by
    refine ⟨gs25, (kk _ (Ne.symm ne_a_th0)).trans (gqE _ _ ct), (kk _ (Ne.symm ne_a_he0)).trans (gqE _ _ ch), ⟨_, (kk _ (Ne.symm ne_a_ta0)).trans (gqE _ _ cb), fun t ht => absurd ht (Nat.not_lt_zero t)⟩, ⟨_, (kk _ nl).trans gqC, fun t ht => ⟨if_pos ht, ?_⟩⟩, fun t u ht => absurd ht (Nat.not_lt_zero t), fun t u i j _ _ hi => absurd hi (Nat.not_lt_zero i)⟩
    exact ⟨⟨_, (kk _ (nek (gqD t ht) (gqE _ _ ca) nofun)).trans (gqD t ht), fun j hj => absurd hj (Nat.not_lt_zero j)⟩, fun j hj => absurd hj (Nat.not_lt_zero j)⟩
  exact V.retv hF (by decide +kernel) ⟨rfl, _, rfl, SMf, hq_th0, n1, fun x c hc hx => (kk x hx).trans (x8 x c hc hx)⟩
set_option maxHeartbeats 4000000 in
theorem c_X4_melts (hG : GOk G) {q : QA} {σ : Sg} (hS : SM h q σ) {t y : Nat} (ht : t < gT σ) (h8 : gT σ ≤ 8) (hy : y < 2 ^ 31) : Ct G yX4_melts (.code yX4_melts cX4_melts 3 (some .boolean)) 0 0 0 0 [.ref (qo q), .int (nI t), .int (nI y)] h (is_i (tf (gce σ t = 0 ∧ gha σ t < ghe σ (y % 10))) h) pxN := by
  refine Ct.of (by decide +kernel) (Nat.le_of_ble_eq_true rfl) fun F hF hT hN hRm => ?_
  obtain ⟨s1, s2, s3, ⟨g1, s4, s5⟩, -⟩ := hS
  obtain ⟨e1, f, e2, f0, f1⟩ := s5 t ht
  refine V.run hF [(.aload_n 0, 1, .null)] (pc' := 1) (L' := [some (.ref (qo q)), some (.int (nI t)), some (.int (nI y))]) (st' := [.ref (qo q)]) (by decide +kernel) rfl ?_
  refine V.getf hG hF k_RX4_18 (by decide +kernel) s1 rfl ?_
  refine V.run hF [(.iload_n 1, 1, .null)] (pc' := 5) (L' := [some (.ref (qo q)), some (.int (nI t)), some (.int (nI y))]) (st' := [.int (nI t), .ref (qta q)]) (by decide +kernel) rfl ?_
  refine V.aaldS (j := t) (b := (qtr q t)) hG hF (by decide +kernel) s4 (by omega) (by first | decide | omega) e1 ?_
  refine V.run hF [(.iconst 1, 1, .int (nI 1))] (pc' := 7) (L' := [some (.ref (qo q)), some (.int (nI t)), some (.int (nI y))]) (st' := [.int (nI 1), .ref (qtr q t)]) (by decide +kernel) rfl ?_
  refine V.ialdN (j := 1) hG hF (by decide +kernel) e2 (by omega) (by first | decide | omega) ?_
  rw [f1]
  refine V.if_ne hF (off := 27) (tgt := 35) (by decide +kernel) (by decide) (fun c1 => ?_) (fun c1 => ?_)
  · skip
    refine V.run hF [(.iconst 0, 1, .int 0)] (pc' := 36) (L' := [some (.ref (qo q)), some (.int (nI t)), some (.int (nI y))]) (st' := [.int 0]) (by decide +kernel) rfl ?_
    exact V.retz hF (by decide +kernel) rfl ⟨by rw [tf, if_neg (fun z => c1 z.1)], rfl⟩
  · skip
    refine V.run hF [(.aload_n 0, 1, .null)] (pc' := 12) (L' := [some (.ref (qo q)), some (.int (nI t)), some (.int (nI y))]) (st' := [.ref (qo q)]) (by decide +kernel) rfl ?_
    refine V.getf hG hF k_RX4_13 (by decide +kernel) s1 rfl ?_
    refine V.run hF [(.iload_n 2, 1, .null), (.bipush 10, 2, .int (nI 10))] (pc' := 18) (L' := [some (.ref (qo q)), some (.int (nI t)), some (.int (nI y))]) (st' := [.int (nI 10), .int (nI y), .ref (qhe q)]) (by decide +kernel) rfl ?_
    refine V.iremN (a := y) (b := 10) hF (by decide +kernel) (by omega) (by omega) (by omega) ?_
    refine V.ialdN (j := y % 10) hG hF (by decide +kernel) s3 (by omega) (by first | decide | omega) ?_
    refine V.run hF [(.aload_n 0, 1, .null)] (pc' := 21) (L' := [some (.ref (qo q)), some (.int (nI t)), some (.int (nI y))]) (st' := [.ref (qo q), .int ((ghe σ) (y % 10))]) (by decide +kernel) rfl ?_
    refine V.getf hG hF k_RX4_18 (by decide +kernel) s1 rfl ?_
    refine V.run hF [(.iload_n 1, 1, .null)] (pc' := 25) (L' := [some (.ref (qo q)), some (.int (nI t)), some (.int (nI y))]) (st' := [.int (nI t), .ref (qta q), .int ((ghe σ) (y % 10))]) (by decide +kernel) rfl ?_
    refine V.aaldS (j := t) (b := (qtr q t)) hG hF (by decide +kernel) s4 (by omega) (by first | decide | omega) e1 ?_
    refine V.run hF [(.iconst 0, 1, .int (nI 0))] (pc' := 27) (L' := [some (.ref (qo q)), some (.int (nI t)), some (.int (nI y))]) (st' := [.int (nI 0), .ref (qtr q t), .int ((ghe σ) (y % 10))]) (by decide +kernel) rfl ?_
    refine V.ialdN (j := 0) hG hF (by decide +kernel) e2 (by omega) (by first | decide | omega) ?_
    rw [f0]
    refine V.icmp_le hF (off := 7) (tgt := 35) (by decide +kernel) (by decide) (fun c2 => ?_) (fun c2 => ?_)
    · skip
      refine V.run hF [(.iconst 0, 1, .int 0)] (pc' := 36) (L' := [some (.ref (qo q)), some (.int (nI t)), some (.int (nI y))]) (st' := [.int 0]) (by decide +kernel) rfl ?_
      exact V.retz hF (by decide +kernel) rfl ⟨by rw [tf, if_neg (fun z => Int32.not_lt.mpr c2 z.2)], rfl⟩
    · skip
      refine V.run hF [(.iconst 1, 1, .int 1), (.goto 4, 3, .null)] (pc' := 36) (L' := [some (.ref (qo q)), some (.int (nI t)), some (.int (nI y))]) (st' := [.int 1]) (by decide +kernel) rfl ?_
      exact V.retz hF (by decide +kernel) rfl ⟨by rw [tf, if_pos ⟨c1, Int32.not_le.mp c2⟩], rfl⟩
/-- while years go by -/
abbrev sIn (σ : Sg) (k t : Nat) : Sg := sYmd (sMelt (yrN k σ) t) (gy σ + k) (gme σ + goN k σ + gon (yrN k σ) t) (gde σ)
abbrev Fr2 (q : QA) (h h' : Hp) : Prop := ∀ x c, h x = some c → x ≠ qo q → x ≠ qli q → h' x = some c
theorem Fr2.tr {q : QA} {h h1 h2 : Hp} (p : Fr2 q h h1) (p2 : Fr2 q h1 h2) : Fr2 q h h2 := fun x c hc n1 n2 => p2 x c (p x c hc n1 n2) n1 n2
set_option maxHeartbeats 8000000 in
theorem c_X4_pass (hG : GOk G) {q : QA} {σ : Sg} (hS : SM h q σ) (h8 : gT σ ≤ 8) {n : Nat} (hn : n ≤ 40) (hy : gy σ < 2 ^ 29) : Ct G yX4_pass (.code yX4_pass cX4_pass 5 (some .int)) 1 22 320 0 [.ref (qo q), .int (nI n)] h (fun v h' => v = some (.int (goN n σ)) ∧ ∃ la rr, SM h' (ql q la rr) (sPass σ n) ∧ Fr2 q h h') pxN := by
  refine Ct.of (by decide +kernel) (Nat.le_of_ble_eq_true rfl) fun F hF hT hN hRm => ?_
  have loop : ∀ k, k ≤ n → ∀ (hh : Hp) (la : Nat → Nat) (rr : Nat → Nat → Nat) (L4 : Option Value), SM hh (ql q la rr) (sPass σ k) → Fr2 q h hh → V G F (fin G F (fun v h' => v = some (.int (goN n σ)) ∧ ∃ la rr, SM h' (ql q la rr) (sPass σ n) ∧ Fr2 q h h') pxN) (8 * (n - k)) 0 7 [some (.ref (qo q)), some (.int (nI n)), some (.int (gme σ)), some (.int (nI k)), L4] [] hh := by
    refine lp_up n fun k hk ih hh la rr L4 hS1 hf1 => ?_
    refine V.loc (L' := [some (.ref (qo q)), some (.int (nI n)), some (.int (gme σ)), some (.int (nI k)), none]) (fun j v hv => by
      match j, hv with
      | 0, hv => exact hv
      | 1, hv => exact hv
      | 2, hv => exact hv
      | 3, hv => exact hv
      | 4, hv => cases hv
      | q + 5, hv => cases hv) ?_
    obtain ⟨s1, -⟩ := id hS1
    have s1 : hh (qo q) = some (.inr (4, [.ref (qth q), .ref (qhe q), .ref (qta q), .ref (qli q), .int (nI (gy σ + k)), .int (gme σ + goN k σ), .int (gde σ)])) := s1
    refine V.run hF [(.iload_n 3, 1, .null), (.iload_n 1, 1, .null)] (pc' := 9) (L' := [some (.ref (qo q)), some (.int (nI n)), some (.int (gme σ)), some (.int (nI k)), none]) (st' := [.int (nI n), .int (nI k)]) (by decide +kernel) rfl ?_
    refine V.icmpN_ge (i := k) (j := n) hF (off := 82) (tgt := 91) (by decide +kernel) (by decide) (by omega) (by omega) (fun c1 => ?_) (fun c1 => ?_)
    · have e : k = n := by omega
      rw [e] at hS1
      refine V.run hF [(.aload_n 0, 1, .null)] (pc' := 92) (L' := [some (.ref (qo q)), some (.int (nI n)), some (.int (gme σ)), some (.int (nI k)), none]) (st' := [.ref (qo q)]) (by decide +kernel) rfl ?_
      refine V.getf hG hF k_RX4_35 (by decide +kernel) s1 rfl ?_
      refine V.run hF [(.iload_n 2, 1, .null), (.isub, 1, .null)] (pc' := 97) (L' := [some (.ref (qo q)), some (.int (nI n)), some (.int (gme σ)), some (.int (nI k)), none]) (st' := [.int ((gme σ + goN k σ) - gme σ)]) (by decide +kernel) rfl ?_
      exact V.reti hF (by decide +kernel) ⟨by rw [e, Int32.add_comm (gme σ), Int32.add_sub_cancel], la, rr, hS1, hf1⟩
    · skip
      have inner : ∀ t, t ≤ gT σ → ∀ (hh : Hp) (la : Nat → Nat) (rr : Nat → Nat → Nat), SM hh (ql q la rr) (sIn σ k t) → Fr2 q h hh → V G F (fin G F (fun v h' => v = some (.int (goN n σ)) ∧ ∃ la rr, SM h' (ql q la rr) (sPass σ n) ∧ Fr2 q h h') pxN) (8 * (n - k - 1) + (8 - t)) 0 15 [some (.ref (qo q)), some (.int (nI n)), some (.int (gme σ)), some (.int (nI k)), some (.int (nI t))] [] hh := by
        refine lp_up (gT σ) fun t ht iht hh la rr hS2 hf2 => ?_
        obtain ⟨u1, u2, u3, ⟨g1, u4, u5⟩, ⟨g2, u6, u7⟩, -⟩ := id hS2
        have eT : gT (sIn σ k t) = gT σ := yrN_T k σ
        have u1 : hh (qo q) = some (.inr (4, [.ref (qth q), .ref (qhe q), .ref (qta q), .ref (qli q), .int (nI (gy σ + k)), .int (gme σ + goN k σ + gon (yrN k σ) t), .int (gde σ)])) := u1
        have u4 : hh (qta q) = some (.inl (2, gT σ, .inr (.inr (.inr (.inr g1))))) := by rw [eT] at u4; exact u4
        have u6 : hh (qli q) = some (.inl (4, 8, .inr (.inr (.inr (.inr g2))))) := u6
        refine V.run hF [(.iload 4, 2, .null), (.aload_n 0, 1, .null)] (pc' := 18) (L' := [some (.ref (qo q)), some (.int (nI n)), some (.int (gme σ)), some (.int (nI k)), some (.int (nI t))]) (st' := [.ref (qo q), .int (nI t)]) (by decide +kernel) rfl ?_
        refine V.getf hG hF k_RX4_18 (by decide +kernel) u1 rfl ?_
        refine V.alen hG hF (by decide +kernel) (by decide) u4 ?_
        show V G F _ _ _ 22 [some (.ref (qo q)), some (.int (nI n)), some (.int (gme σ)), some (.int (nI k)), some (.int (nI t))] [.int (nI (gT σ)), .int (nI t)] hh
        refine V.icmpN_ge (i := t) (j := gT σ) hF (off := 53) (tgt := 75) (by decide +kernel) (by decide) (by omega) (by omega) (fun c2 => ?_) (fun c2 => ?_)
        · have e : t = gT σ := by omega
          refine V.run hF [(.aload_n 0, 1, .null), (.dup, 1, .null)] (pc' := 77) (L' := [some (.ref (qo q)), some (.int (nI n)), some (.int (gme σ)), some (.int (nI k)), some (.int (nI t))]) (st' := [.ref (qo q), .ref (qo q)]) (by decide +kernel) rfl ?_
          refine V.getf hG hF k_RX4_39 (by decide +kernel) u1 rfl ?_
          refine V.run hF [(.iconst 1, 1, .int 1), (.iadd, 1, .null)] (pc' := 82) (L' := [some (.ref (qo q)), some (.int (nI n)), some (.int (gme σ)), some (.int (nI k)), some (.int (nI t))]) (st' := [.int (nI (gy σ + k) + 1), .ref (qo q)]) (by decide +kernel) rfl ?_
          rw [nI_1 (gy σ + k)]
          refine V.putf hG hF k_RX4_39 (by decide +kernel) u1 (fun C T N hc => by cases hc; exact ⟨rfl, .int, by decide +kernel, rfl, rfl⟩) (Nat.le_of_ble_eq_true rfl) ?_
          obtain ⟨h_1, gh1⟩ : ∃ z : Hp, z = hset hh (qo q) (.inr (4, [.ref (qth q), .ref (qhe q), .ref (qta q), .ref (qli q), .int (nI (gy σ + k + 1)), .int (gme σ + goN k σ + gon (yrN k σ) t), .int (gde σ)])) := ⟨_, rfl⟩
          refine V.hp gh1 ?_
          have gk1 : ∀ zq : Nat, zq ≠ (qo q) → h_1 zq = hh zq := fun zq hq => by rw [gh1]; exact hset_ne hq
          have gs1 : h_1 (qo q) = some (.inr (4, [.ref (qth q), .ref (qhe q), .ref (qta q), .ref (qli q), .int (nI (gy σ + k + 1)), .int (gme σ + goN k σ + gon (yrN k σ) t), .int (gde σ)])) := by rw [gh1]; exact hset_eq
          have hS3 := hS2.ymd (y := gy σ + k + 1) (me := gme σ + goN k σ + gon (yrN k σ) t) (de := gde σ) gs1 (Exw.of (fun x hx => gk1 x hx))
          have hS4 : SM h_1 (ql q la rr) (sPass σ (k + 1)) := by
            refine hS3.cg rfl rfl rfl rfl ?_ rfl fun u hu => ?_
            · show gme σ + (goN k σ + gon (yrN k σ) (gT σ)) = gme σ + goN k σ + gon (yrN k σ) t
              rw [e, Int32.add_assoc]
            · rw [e, ← yrN_T k σ]
              exact ⟨rfl, rfl, rfl, fun j hj => ⟨rfl, rfl, rfl, rfl⟩⟩
          refine V.run hF [(.iinc 3 1, 3, .int 1), (.goto (-81), 3, .null)] (pc' := 7) (L' := [some (.ref (qo q)), some (.int (nI n)), some (.int (gme σ)), some (.int ((nI k) + 1)), some (.int (nI t))]) (st' := []) (by decide +kernel) rfl ?_
          rw [nI_1 k]
          refine V.less (kc' := 8 * (n - (k + 1))) (ks' := 0) (by omega) (by omega) ?_
          exact ih c1 _ la rr _ hS4 (fun x c hc n1 n2 => (gk1 x n1).trans (hf2 x c hc n1 n2))
        · skip
          have ht' : t < gT (sIn σ k t) := by rw [eT]; exact c2
          have em : ∀ (b : Prop) [Decidable b], tf b = (if b then 1 else 0) := fun b _ => rfl
          refine V.run hF [(.aload_n 0, 1, .null), (.iload 4, 2, .null), (.aload_n 0, 1, .null)] (pc' := 29) (L' := [some (.ref (qo q)), some (.int (nI n)), some (.int (gme σ)), some (.int (nI k)), some (.int (nI t))]) (st' := [.ref (qo q), .int (nI t), .ref (qo q)]) (by decide +kernel) rfl ?_
          refine V.getf hG hF k_RX4_39 (by decide +kernel) u1 rfl ?_
          refine V.less (kc' := (8 * (n - k - 1) + (8 - t)) + 0) (ks' := 0 + 0) (by omega) (by omega) ?_
          refine V.callV (As := [.int (nI t), .int (nI (gy σ + k))]) (st := []) hG hF k_RX4_42 (by decide +kernel) (c_X4_melts hG hS2 ht' (by rw [eT]; exact h8) (show gy σ + k < 2 ^ 31 by omega)) u1 rfl rfl ⟨by rw [hRm]; decide, by rw [hRm]; decide⟩ (Nat.le_of_ble_eq_true rfl) rfl (fun v h_2 gp2 => ?_) (fun E h9 hx => hx.elim)
          obtain ⟨rfl, he_gp2⟩ := gp2
          rw [he_gp2]
          show V G F _ _ _ 35 [some (.ref (qo q)), some (.int (nI n)), some (.int (gme σ)), some (.int (nI k)), some (.int (nI t))] [.int (tf (gce (sIn σ k t) t = 0 ∧ gha (sIn σ k t) t < ghe (sIn σ k t) ((gy σ + k) % 10)))] hh
          have iff : (gce (sIn σ k t) t = 0 ∧ gha (sIn σ k t) t < ghe (sIn σ k t) ((gy σ + k) % 10)) ↔ mlt (yrN k σ) t := by
            unfold mlt heatAt
            rw [yrN_y, Nat.add_zero]
            exact Iff.rfl
          refine V.if_ne hF (off := 6) (tgt := 41) (by decide +kernel) (by decide) (fun c3 => ?_) (fun c3 => ?_)
          · have hm : mlt (yrN k σ) t := iff.mp (tf_1 c3)
            refine V.run hF [(.aload_n 0, 1, .null), (.dup, 1, .null)] (pc' := 43) (L' := [some (.ref (qo q)), some (.int (nI n)), some (.int (gme σ)), some (.int (nI k)), some (.int (nI t))]) (st' := [.ref (qo q), .ref (qo q)]) (by decide +kernel) rfl ?_
            refine V.getf hG hF k_RX4_35 (by decide +kernel) u1 rfl ?_
            refine V.run hF [(.aload_n 0, 1, .null)] (pc' := 47) (L' := [some (.ref (qo q)), some (.int (nI n)), some (.int (gme σ)), some (.int (nI k)), some (.int (nI t))]) (st' := [.ref (qo q), .int (gme σ + goN k σ + gon (yrN k σ) t), .ref (qo q)]) (by decide +kernel) rfl ?_
            refine V.getf hG hF k_RX4_24 (by decide +kernel) u1 rfl ?_
            obtain ⟨v1, v2⟩ := u7 t (by omega)
            obtain ⟨⟨g3, w1, w2⟩, w3⟩ := id v2
            have egm : gm (sIn σ k t) t = gn (yrN k σ) t := by
              rw [gm_in ht']
              show (if t < t ∧ _ then 0 else _) = _
              rw [if_neg (fun z => Nat.lt_irrefl t z.1)]
            rw [egm] at w1
            have na1 : qli q ≠ qo q := nek u6 u1 nofun
            have na2 : qta q ≠ qo q := nek u4 u1 nofun
            have na3 : la t ≠ qo q := nek w1 u1 nofun
            refine V.run hF [(.iload 4, 2, .null)] (pc' := 52) (L' := [some (.ref (qo q)), some (.int (nI n)), some (.int (gme σ)), some (.int (nI k)), some (.int (nI t))]) (st' := [.int (nI t), .ref (qli q), .int (gme σ + goN k σ + gon (yrN k σ) t), .ref (qo q)]) (by decide +kernel) rfl ?_
            refine V.aaldS (j := t) (b := (la t)) hG hF (by decide +kernel) u6 (by omega) (by first | decide | omega) v1 ?_
            refine V.alen hG hF (by decide +kernel) (by decide) w1 ?_
            show V G F _ _ _ 54 [some (.ref (qo q)), some (.int (nI n)), some (.int (gme σ)), some (.int (nI k)), some (.int (nI t))] [.int (nI (gn (yrN k σ) t)), .int (gme σ + goN k σ + gon (yrN k σ) t), .ref (qo q)] hh
            refine V.run hF [(.iadd, 1, .null)] (pc' := 55) (L' := [some (.ref (qo q)), some (.int (nI n)), some (.int (gme σ)), some (.int (nI k)), some (.int (nI t))]) (st' := [.int ((gme σ + goN k σ + gon (yrN k σ) t) + nI (gn (yrN k σ) t)), .ref (qo q)]) (by decide +kernel) rfl ?_
            refine V.putf hG hF k_RX4_35 (by decide +kernel) u1 (fun C T N hc => by cases hc; exact ⟨rfl, .int, by decide +kernel, rfl, rfl⟩) (Nat.le_of_ble_eq_true rfl) ?_
            obtain ⟨h_3, gh3⟩ : ∃ z : Hp, z = hset hh (qo q) (.inr (4, [.ref (qth q), .ref (qhe q), .ref (qta q), .ref (qli q), .int (nI (gy σ + k)), .int ((gme σ + goN k σ + gon (yrN k σ) t) + nI (gn (yrN k σ) t)), .int (gde σ)])) := ⟨_, rfl⟩
            refine V.hp gh3 ?_
            have gk3 : ∀ zq : Nat, zq ≠ (qo q) → h_3 zq = hh zq := fun zq hq => by rw [gh3]; exact hset_ne hq
            have gs3 : h_3 (qo q) = some (.inr (4, [.ref (qth q), .ref (qhe q), .ref (qta q), .ref (qli q), .int (nI (gy σ + k)), .int ((gme σ + goN k σ + gon (yrN k σ) t) + nI (gn (yrN k σ) t)), .int (gde σ)])) := by rw [gh3]; exact hset_eq
            have hS3 := hS2.ymd (y := gy σ + k) (me := gme σ + goN k σ + gon (yrN k σ) t + nI (gn (yrN k σ) t)) (de := gde σ) gs3 (Exw.of (fun x hx => gk3 x hx))
            have hf3 : Fr2 q h h_3 := fun x c hc n1 n2 => (gk3 x n1).trans (hf2 x c hc n1 n2)
            have gf4 : h_3 (qli q) = some (.inl (4, 8, .inr (.inr (.inr (.inr g2))))) := (gk3 (qli q) (by first | assumption | exact Ne.symm (by assumption) | omega)).trans u6
            have u6' := gf4
            obtain ⟨h5, eh5⟩ : ∃ z : Hp, z = h_3 := ⟨_, rfl⟩
            refine V.run hF [(.aload_n 0, 1, .null)] (pc' := 59) (L' := [some (.ref (qo q)), some (.int (nI n)), some (.int (gme σ)), some (.int (nI k)), some (.int (nI t))]) (st' := [.ref (qo q)]) (by decide +kernel) rfl ?_
            refine V.getf hG hF k_RX4_24 (by decide +kernel) gs3 rfl ?_
            refine V.run hF [(.iload 4, 2, .null), (.iconst 0, 1, .int (nI 0))] (pc' := 65) (L' := [some (.ref (qo q)), some (.int (nI n)), some (.int (gme σ)), some (.int (nI k)), some (.int (nI t))]) (st' := [.int (nI 0), .int (nI t), .ref (qli q)]) (by decide +kernel) rfl ?_
            refine V.less (kc' := (8 * (n - k - 1) + (8 - (t + 1))) + 1) (ks' := 0 + 0) (by omega) (by omega) ?_
            have gf5 : h_3 (qta q) = some (.inl (2, gT σ, .inr (.inr (.inr (.inr g1))))) := (gk3 (qta q) (by first | assumption | exact Ne.symm (by assumption) | omega)).trans u4
            have gf6 : h_3 (la t) = some (.inl (2, gn (yrN k σ) t, .inr (.inr (.inr (.inr g3))))) := (gk3 (la t) (by first | assumption | exact Ne.symm (by assumption) | omega)).trans w1
            refine V.newA (N := 0) hG hF tw_405.1 (by decide +kernel) (by omega) (fun na hq_na => ?_)
            have ne_qoq_na : (qo q) ≠ na := ne_new gs3 hq_na
            have ne_qtaq_na : (qta q) ≠ na := ne_new gf5 hq_na
            have ne_qliq_na : (qli q) ≠ na := ne_new gf4 hq_na
            have ne_lat_na : (la t) ≠ na := ne_new gf6 hq_na
            obtain ⟨h_7, gh7⟩ : ∃ z : Hp, z = hset h_3 na (.inl (2, 0, .inr (.inr (.inr (.inr (fun _ => none)))))) := ⟨_, rfl⟩
            refine V.hp gh7 ?_
            have gk7 : ∀ zq : Nat, zq ≠ na → h_7 zq = h_3 zq := fun zq hq => by rw [gh7]; exact hset_ne hq
            have gs7 : h_7 na = some (.inl (2, 0, .inr (.inr (.inr (.inr (fun _ => none)))))) := by rw [gh7]; exact hset_eq
            have xn : Ex h5 h_7 := by rw [eh5]; exact Ex.new hq_na (fun x hx => gk7 x hx)
            have cna := gs7
            have gf8 : h_7 (qli q) = some (.inl (4, 8, .inr (.inr (.inr (.inr g2))))) := (gk7 (qli q) (by first | assumption | exact Ne.symm (by assumption) | omega)).trans gf4
            refine V.aastAN (j := t) hG hF (by decide) (by decide +kernel) gf8 gs7 (by omega) (by first | decide | omega) ?_
            obtain ⟨h_9, gh9⟩ : ∃ z : Hp, z = hset h_7 (qli q) (.inl (4, 8, .inr (.inr (.inr (.inr (va_up g2 t (some na))))))) := ⟨_, rfl⟩
            refine V.hp gh9 ?_
            have gk9 : ∀ zq : Nat, zq ≠ (qli q) → h_9 zq = h_7 zq := fun zq hq => by rw [gh9]; exact hset_ne hq
            have gs9 : h_9 (qli q) = some (.inl (4, 8, .inr (.inr (.inr (.inr (va_up g2 t (some na))))))) := by rw [gh9]; exact hset_eq
            have kk : ∀ x, x ≠ qli q → h_9 x = h_9 x := fun x _ => rfl
            have gf10 : h_9 na = some (.inl (2, 0, .inr (.inr (.inr (.inr (fun _ => none)))))) := (gk9 na (by first | assumption | exact Ne.symm (by assumption) | omega)).trans gs7
            have hS4 := SM.lines (q := ql q la rr) (σ := sYmd (sIn σ k t) (gy σ + k) (gme σ + goN k σ + gon (yrN k σ) t + nI (gn (yrN k σ) t)) (gde σ)) (h := h5) (h0 := h5) (h' := h_9) (t := t) (n := 0) (a := na) (R := fun _ => 0) (D := gDD (sIn σ k t) t) (C := gC (sIn σ k t) t) (M := gM (sIn σ k t) t) (W := gW (sIn σ k t) t) (g := g2) (by rw [eh5]; exact hS3) ht' (show gT (sIn σ k t) ≤ 8 by rw [eT]; exact h8) (by rw [eh5]; exact u6') gs9 ⟨⟨_, gf10, fun j hj => absurd hj (Nat.not_lt_zero j)⟩, fun j hj => absurd hj (Nat.not_lt_zero j)⟩ (fun x c hc hx => (gk9 x hx).trans (xn x c hc)) (fun i j hi => absurd hi (Nat.not_lt_zero i)) (fun j hj => absurd hj (Nat.not_lt_zero j)) (by rw [eh5]; exact hS3)
            have hS5 : SM h_9 (ql q (va_up la t na) (va_up rr t (fun _ => 0))) (sIn σ k (t + 1)) := by
              have e5 : sIn σ k (t + 1) = sTab (sYmd (sMelt (yrN k σ) t) (gy σ + k) (gme σ + goN k σ + gon (yrN k σ) t + nI (gn (yrN k σ) t)) (gde σ)) t (gha (sIn σ k t) t) (gce (sIn σ k t) t) 0 (gDD (sIn σ k t) t) (gC (sIn σ k t) t) (gM (sIn σ k t) t) (gW (sIn σ k t) t) := by
                have e6 : gon (yrN k σ) (t + 1) = gon (yrN k σ) t + nI (gn (yrN k σ) t) := by
                  show gon (yrN k σ) t + (if mlt (yrN k σ) t then _ else 0) = _
                  rw [if_pos hm]
                unfold sIn
                rw [e6, ← Int32.add_assoc, ← sMelt_y hm]
                rfl
              rw [e5]
              exact hS4
            refine V.run hF [(.iinc 4 1, 3, .int 1), (.goto (-57), 3, .null)] (pc' := 15) (L' := [some (.ref (qo q)), some (.int (nI n)), some (.int (gme σ)), some (.int (nI k)), some (.int ((nI t) + 1))]) (st' := []) (by decide +kernel) rfl ?_
            rw [nI_1 t]
            exact iht c2 _ _ _ hS5 (fun x c hc n1 n2 => (gk9 x n2).trans (xn x c (by rw [eh5]; exact hf3 x c hc n1 n2)))
          · skip
            have hm : ¬ mlt (yrN k σ) t := fun z => tf_0 c3 (iff.mpr z)
            refine V.run hF [(.goto 31, 3, .null), (.iinc 4 1, 3, .int 1), (.goto (-57), 3, .null)] (pc' := 15) (L' := [some (.ref (qo q)), some (.int (nI n)), some (.int (gme σ)), some (.int (nI k)), some (.int ((nI t) + 1))]) (st' := []) (by decide +kernel) rfl ?_
            rw [nI_1 t]
            have e5 : sIn σ k (t + 1) = sIn σ k t := by
              have e6 : gon (yrN k σ) (t + 1) = gon (yrN k σ) t := by
                show gon (yrN k σ) t + (if mlt (yrN k σ) t then _ else 0) = _
                rw [if_neg hm, Int32.add_zero]
              unfold sIn
              rw [e6, sMelt_n hm]
            refine V.less (kc' := 8 * (n - k - 1) + (8 - (t + 1))) (ks' := 0) (by omega) (by omega) ?_
            exact iht c2 _ la rr (by rw [e5]; exact hS2) hf2
      refine V.run hF [(.iconst 0, 1, .int (nI 0)), (.istore 4, 2, .null)] (pc' := 15) (L' := [some (.ref (qo q)), some (.int (nI n)), some (.int (gme σ)), some (.int (nI k)), some (.int (nI 0))]) (st' := []) (by decide +kernel) rfl ?_
      have hS2 : SM hh (ql q la rr) (sIn σ k 0) := by
        have e5 : sIn σ k 0 = sPass σ k := by
          unfold sIn sPass
          rw [sMelt_0, show gon (yrN k σ) 0 = 0 from rfl, Int32.add_zero]
        rw [e5]
        exact hS1
      refine V.less (kc' := 8 * (n - k - 1) + (8 - 0)) (ks' := 0) (by omega) (by omega) ?_
      exact inner 0 (Nat.zero_le _) _ la rr hS2 hf1
  obtain ⟨s1, -⟩ := id hS
  refine V.run hF [(.aload_n 0, 1, .null)] (pc' := 1) (L' := [some (.ref (qo q)), some (.int (nI n)), none, none, none]) (st' := [.ref (qo q)]) (by decide +kernel) rfl ?_
  refine V.getf hG hF k_RX4_35 (by decide +kernel) s1 rfl ?_
  refine V.run hF [(.istore_n 2, 1, .null), (.iconst 0, 1, .int (nI 0)), (.istore_n 3, 1, .null)] (pc' := 7) (L' := [some (.ref (qo q)), some (.int (nI n)), some (.int (gme σ)), some (.int (nI 0)), none]) (st' := []) (by decide +kernel) rfl ?_
  have hS0 : SM h (ql q (qla q) (qrr q)) (sPass σ 0) := by
    refine SM.cg (q := ql q (qla q) (qrr q)) (σ := σ) hS rfl rfl rfl rfl ?_ rfl fun t ht => ⟨rfl, rfl, rfl, fun j hj => ⟨rfl, rfl, rfl, rfl⟩⟩
    show gme σ + 0 = gme σ
    rw [Int32.add_zero]
  refine V.less (kc' := 8 * (n - 0)) (ks' := 0) (by omega) (by omega) ?_
  exact loop 0 (Nat.zero_le _) h _ _ _ hS0 (fun x c hc _ _ => hc)
end So
