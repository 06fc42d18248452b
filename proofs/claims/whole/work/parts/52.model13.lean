/-! ===== TallyWaxModel: the constructor ===== -/
def u0 : Mu := (nI 255, fun _ => 0, fun _ => 0, fun _ => 0, fun _ => 0, fun _ => 0)
theorem bit_255 : ∀ p : Fin 8, (nI 255 >>> (nI p.val &&& 31)) &&& 1 = 1 := by decide +kernel
theorem RM_0 : RM S0 u0 := by
  refine ⟨Nat.zero_le _, fun p hp => ⟨?_, ?_⟩, fun k hk => rfl, fun t ht => absurd ht (Nat.not_lt_zero t), fun t h1 h2 => ⟨rfl, rfl⟩⟩
  · have e : gth S0 p = 1 := if_pos hp
    rw [e]
    exact bit_255 ⟨p, hp⟩
  · exact Or.inr (if_pos hp)
section Na
variable {G : Gt} {h : Hp} {a : Nat}
set_option maxHeartbeats 8000000 in
theorem c_X4_init (hG : GOk G) (hA : h a = some (.inr (4, [.int 0, .int 0, .int 0, .null, .null, .null, .null, .null, .int 0, .int 0, .int 0, .null, .null]))) :
    Ct G yX4_init (.code yX4_init cX4_init 1 none) 1 12 7 474 [.ref a] h (is_v fun h' => ∃ B : Nat → Nat, B 0 = a ∧ MO h' B S0 0 u0 (fun _ => 0) (fun _ => 0) ∧ (∀ i, 0 < i → i < 8 → h (B i) = none) ∧ kpB h h' B) pxN := by
  refine Ct.of (by decide +kernel) (Nat.le_of_ble_eq_true rfl) fun F hF hT hN hRm => ?_
  refine V.run hF [(.aload_n 0, 1, .null)] (pc' := 1) (L' := [some (.ref a)]) (st' := [.ref a]) (by decide +kernel) rfl ?_
  refine V.objInit hG hF tw_602 tw_oi1 tw_oi2 (by decide +kernel) ⟨by rw [hRm]; decide, by rw [hRm]; decide⟩ ?_
  refine V.run hF [(.aload_n 0, 1, .null), (.sipush 255, 3, .int (nI 255))] (pc' := 8) (L' := [some (.ref a)]) (st' := [.int (nI 255), .ref a]) (by decide +kernel) rfl ?_
  refine V.putf hG hF k_RX4_7 (by decide +kernel) hA (fun C T N hc => by cases hc; exact ⟨rfl, .int, by decide +kernel, rfl, rfl⟩) (Nat.le_of_ble_eq_true rfl) ?_
  obtain ⟨h_1, gh1⟩ : ∃ z : Hp, z = hset h a (.inr (4, [.int 0, .int (nI 255), .int 0, .null, .null, .null, .null, .null, .int 0, .int 0, .int 0, .null, .null])) := ⟨_, rfl⟩
  refine V.hp gh1 ?_
  have gk1 : ∀ q : Nat, q ≠ a → h_1 q = h q := fun q hq => by rw [gh1]; exact hset_ne hq
  have gs1 : h_1 a = some (.inr (4, [.int 0, .int (nI 255), .int 0, .null, .null, .null, .null, .null, .int 0, .int 0, .int 0, .null, .null])) := by rw [gh1]; exact hset_eq
  refine V.run hF [(.aload_n 0, 1, .null), (.bipush 8, 2, .int (nI 8))] (pc' := 14) (L' := [some (.ref a)]) (st' := [.int (nI 8), .ref a]) (by decide +kernel) rfl ?_
  have k0 := gk1
  refine V.newa (aty := .int) (t := 0) (N := 8) (a0 := (8, .inl (fun _ => 0))) hG hF (by decide) rfl tw_arr_0.1 (by decide +kernel) (by decide) (by decide) (by decide) (fun _ => rfl) (fun b1 hq_b1 => ?_)
  have ne_a_b1 : a ≠ b1 := ne_new gs1 hq_b1
  obtain ⟨h_2, gh2⟩ : ∃ z : Hp, z = hset h_1 b1 (.inl (0, 8, .inl (fun _ => 0))) := ⟨_, rfl⟩
  refine V.hp gh2 ?_
  have gk2 : ∀ q : Nat, q ≠ b1 → h_2 q = h_1 q := fun q hq => by rw [gh2]; exact hset_ne hq
  have gs2 : h_2 b1 = some (.inl (0, 8, .inl (fun _ => 0))) := by rw [gh2]; exact hset_eq
  have k1 := gk2
  have gf3 : h_2 a = some (.inr (4, [.int 0, .int (nI 255), .int 0, .null, .null, .null, .null, .null, .int 0, .int 0, .int 0, .null, .null])) := (gk2 a (by first | assumption | exact Ne.symm (by assumption) | omega)).trans gs1
  refine V.putF hG hF ko_RX4_13 hN (by decide +kernel) gf3 (fun C T N hc => by cases hc; exact ⟨rfl, rfl, (.array .int), by decide +kernel, rfl, rfl⟩) (Nat.le_of_ble_eq_true rfl) ?_
  obtain ⟨h_4, gh4⟩ : ∃ z : Hp, z = hset h_2 a (.inr (4, [.int 0, .int (nI 255), .int 0, .ref b1, .null, .null, .null, .null, .int 0, .int 0, .int 0, .null, .null])) := ⟨_, rfl⟩
  refine V.hp gh4 ?_
  have gk4 : ∀ q : Nat, q ≠ a → h_4 q = h_2 q := fun q hq => by rw [gh4]; exact hset_ne hq
  have gs4 : h_4 a = some (.inr (4, [.int 0, .int (nI 255), .int 0, .ref b1, .null, .null, .null, .null, .int 0, .int 0, .int 0, .null, .null])) := by rw [gh4]; exact hset_eq
  refine V.run hF [(.aload_n 0, 1, .null), (.bipush 8, 2, .int (nI 8))] (pc' := 22) (L' := [some (.ref a)]) (st' := [.int (nI 8), .ref a]) (by decide +kernel) rfl ?_
  have k1a := gk4
  have gf5 : h_4 b1 = some (.inl (0, 8, .inl (fun _ => 0))) := (gk4 b1 (by first | assumption | exact Ne.symm (by assumption) | omega)).trans gs2
  refine V.newa (aty := .boolean) (t := 1) (N := 8) (a0 := (8, .inl (fun _ => 0))) hG hF (by decide) rfl tw_arr_1.1 (by decide +kernel) (by decide) (by decide) (by decide) (fun _ => rfl) (fun b2 hq_b2 => ?_)
  have ne_a_b2 : a ≠ b2 := ne_new gs4 hq_b2
  have ne_b1_b2 : b1 ≠ b2 := ne_new gf5 hq_b2
  obtain ⟨h_6, gh6⟩ : ∃ z : Hp, z = hset h_4 b2 (.inl (1, 8, .inl (fun _ => 0))) := ⟨_, rfl⟩
  refine V.hp gh6 ?_
  have gk6 : ∀ q : Nat, q ≠ b2 → h_6 q = h_4 q := fun q hq => by rw [gh6]; exact hset_ne hq
  have gs6 : h_6 b2 = some (.inl (1, 8, .inl (fun _ => 0))) := by rw [gh6]; exact hset_eq
  have k2 := gk6
  have gf7 : h_6 a = some (.inr (4, [.int 0, .int (nI 255), .int 0, .ref b1, .null, .null, .null, .null, .int 0, .int 0, .int 0, .null, .null])) := (gk6 a (by first | assumption | exact Ne.symm (by assumption) | omega)).trans gs4
  refine V.putF hG hF ko_RX4_17 hN (by decide +kernel) gf7 (fun C T N hc => by cases hc; exact ⟨rfl, rfl, (.array .boolean), by decide +kernel, rfl, rfl⟩) (Nat.le_of_ble_eq_true rfl) ?_
  obtain ⟨h_8, gh8⟩ : ∃ z : Hp, z = hset h_6 a (.inr (4, [.int 0, .int (nI 255), .int 0, .ref b1, .ref b2, .null, .null, .null, .int 0, .int 0, .int 0, .null, .null])) := ⟨_, rfl⟩
  refine V.hp gh8 ?_
  have gk8 : ∀ q : Nat, q ≠ a → h_8 q = h_6 q := fun q hq => by rw [gh8]; exact hset_ne hq
  have gs8 : h_8 a = some (.inr (4, [.int 0, .int (nI 255), .int 0, .ref b1, .ref b2, .null, .null, .null, .int 0, .int 0, .int 0, .null, .null])) := by rw [gh8]; exact hset_eq
  refine V.run hF [(.aload_n 0, 1, .null), (.bipush 8, 2, .int (nI 8))] (pc' := 30) (L' := [some (.ref a)]) (st' := [.int (nI 8), .ref a]) (by decide +kernel) rfl ?_
  have k2a := gk8
  have gf9 : h_8 b1 = some (.inl (0, 8, .inl (fun _ => 0))) := (gk8 b1 (by first | assumption | exact Ne.symm (by assumption) | omega)).trans ((gk6 b1 (by first | assumption | exact Ne.symm (by assumption) | omega)).trans gf5)
  have gf10 : h_8 b2 = some (.inl (1, 8, .inl (fun _ => 0))) := (gk8 b2 (by first | assumption | exact Ne.symm (by assumption) | omega)).trans gs6
  refine V.newa (aty := .int) (t := 0) (N := 8) (a0 := (8, .inl (fun _ => 0))) hG hF (by decide) rfl tw_arr_0.1 (by decide +kernel) (by decide) (by decide) (by decide) (fun _ => rfl) (fun b3 hq_b3 => ?_)
  have ne_a_b3 : a ≠ b3 := ne_new gs8 hq_b3
  have ne_b1_b3 : b1 ≠ b3 := ne_new gf9 hq_b3
  have ne_b2_b3 : b2 ≠ b3 := ne_new gf10 hq_b3
  obtain ⟨h_11, gh11⟩ : ∃ z : Hp, z = hset h_8 b3 (.inl (0, 8, .inl (fun _ => 0))) := ⟨_, rfl⟩
  refine V.hp gh11 ?_
  have gk11 : ∀ q : Nat, q ≠ b3 → h_11 q = h_8 q := fun q hq => by rw [gh11]; exact hset_ne hq
  have gs11 : h_11 b3 = some (.inl (0, 8, .inl (fun _ => 0))) := by rw [gh11]; exact hset_eq
  have k3 := gk11
  have gf12 : h_11 a = some (.inr (4, [.int 0, .int (nI 255), .int 0, .ref b1, .ref b2, .null, .null, .null, .int 0, .int 0, .int 0, .null, .null])) := (gk11 a (by first | assumption | exact Ne.symm (by assumption) | omega)).trans gs8
  refine V.putF hG hF ko_RX4_21 hN (by decide +kernel) gf12 (fun C T N hc => by cases hc; exact ⟨rfl, rfl, (.array .int), by decide +kernel, rfl, rfl⟩) (Nat.le_of_ble_eq_true rfl) ?_
  obtain ⟨h_13, gh13⟩ : ∃ z : Hp, z = hset h_11 a (.inr (4, [.int 0, .int (nI 255), .int 0, .ref b1, .ref b2, .ref b3, .null, .null, .int 0, .int 0, .int 0, .null, .null])) := ⟨_, rfl⟩
  refine V.hp gh13 ?_
  have gk13 : ∀ q : Nat, q ≠ a → h_13 q = h_11 q := fun q hq => by rw [gh13]; exact hset_ne hq
  have gs13 : h_13 a = some (.inr (4, [.int 0, .int (nI 255), .int 0, .ref b1, .ref b2, .ref b3, .null, .null, .int 0, .int 0, .int 0, .null, .null])) := by rw [gh13]; exact hset_eq
  refine V.run hF [(.aload_n 0, 1, .null), (.sipush 384, 3, .int (nI 384))] (pc' := 39) (L' := [some (.ref a)]) (st' := [.int (nI 384), .ref a]) (by decide +kernel) rfl ?_
  have k3a := gk13
  have gf14 : h_13 b1 = some (.inl (0, 8, .inl (fun _ => 0))) := (gk13 b1 (by first | assumption | exact Ne.symm (by assumption) | omega)).trans ((gk11 b1 (by first | assumption | exact Ne.symm (by assumption) | omega)).trans gf9)
  have gf15 : h_13 b2 = some (.inl (1, 8, .inl (fun _ => 0))) := (gk13 b2 (by first | assumption | exact Ne.symm (by assumption) | omega)).trans ((gk11 b2 (by first | assumption | exact Ne.symm (by assumption) | omega)).trans gf10)
  have gf16 : h_13 b3 = some (.inl (0, 8, .inl (fun _ => 0))) := (gk13 b3 (by first | assumption | exact Ne.symm (by assumption) | omega)).trans gs11
  refine V.newa (aty := .int) (t := 0) (N := 384) (a0 := (384, .inl (fun _ => 0))) hG hF (by decide) rfl tw_arr_0.1 (by decide +kernel) (by decide) (by decide) (by decide) (fun _ => rfl) (fun b4 hq_b4 => ?_)
  have ne_a_b4 : a ≠ b4 := ne_new gs13 hq_b4
  have ne_b1_b4 : b1 ≠ b4 := ne_new gf14 hq_b4
  have ne_b2_b4 : b2 ≠ b4 := ne_new gf15 hq_b4
  have ne_b3_b4 : b3 ≠ b4 := ne_new gf16 hq_b4
  obtain ⟨h_17, gh17⟩ : ∃ z : Hp, z = hset h_13 b4 (.inl (0, 384, .inl (fun _ => 0))) := ⟨_, rfl⟩
  refine V.hp gh17 ?_
  have gk17 : ∀ q : Nat, q ≠ b4 → h_17 q = h_13 q := fun q hq => by rw [gh17]; exact hset_ne hq
  have gs17 : h_17 b4 = some (.inl (0, 384, .inl (fun _ => 0))) := by rw [gh17]; exact hset_eq
  have k4 := gk17
  have gf18 : h_17 a = some (.inr (4, [.int 0, .int (nI 255), .int 0, .ref b1, .ref b2, .ref b3, .null, .null, .int 0, .int 0, .int 0, .null, .null])) := (gk17 a (by first | assumption | exact Ne.symm (by assumption) | omega)).trans gs13
  refine V.putF hG hF ko_RX4_24 hN (by decide +kernel) gf18 (fun C T N hc => by cases hc; exact ⟨rfl, rfl, (.array .int), by decide +kernel, rfl, rfl⟩) (Nat.le_of_ble_eq_true rfl) ?_
  obtain ⟨h_19, gh19⟩ : ∃ z : Hp, z = hset h_17 a (.inr (4, [.int 0, .int (nI 255), .int 0, .ref b1, .ref b2, .ref b3, .ref b4, .null, .int 0, .int 0, .int 0, .null, .null])) := ⟨_, rfl⟩
  refine V.hp gh19 ?_
  have gk19 : ∀ q : Nat, q ≠ a → h_19 q = h_17 q := fun q hq => by rw [gh19]; exact hset_ne hq
  have gs19 : h_19 a = some (.inr (4, [.int 0, .int (nI 255), .int 0, .ref b1, .ref b2, .ref b3, .ref b4, .null, .int 0, .int 0, .int 0, .null, .null])) := by rw [gh19]; exact hset_eq
  refine V.run hF [(.aload_n 0, 1, .null), (.bipush 10, 2, .int (nI 10))] (pc' := 47) (L' := [some (.ref a)]) (st' := [.int (nI 10), .ref a]) (by decide +kernel) rfl ?_
  have k4a := gk19
  have gf20 : h_19 b1 = some (.inl (0, 8, .inl (fun _ => 0))) := (gk19 b1 (by first | assumption | exact Ne.symm (by assumption) | omega)).trans ((gk17 b1 (by first | assumption | exact Ne.symm (by assumption) | omega)).trans gf14)
  have gf21 : h_19 b2 = some (.inl (1, 8, .inl (fun _ => 0))) := (gk19 b2 (by first | assumption | exact Ne.symm (by assumption) | omega)).trans ((gk17 b2 (by first | assumption | exact Ne.symm (by assumption) | omega)).trans gf15)
  have gf22 : h_19 b3 = some (.inl (0, 8, .inl (fun _ => 0))) := (gk19 b3 (by first | assumption | exact Ne.symm (by assumption) | omega)).trans ((gk17 b3 (by first | assumption | exact Ne.symm (by assumption) | omega)).trans gf16)
  have gf23 : h_19 b4 = some (.inl (0, 384, .inl (fun _ => 0))) := (gk19 b4 (by first | assumption | exact Ne.symm (by assumption) | omega)).trans gs17
  refine V.newa (aty := .int) (t := 0) (N := 10) (a0 := (10, .inl (fun _ => 0))) hG hF (by decide) rfl tw_arr_0.1 (by decide +kernel) (by decide) (by decide) (by decide) (fun _ => rfl) (fun b5 hq_b5 => ?_)
  have ne_a_b5 : a ≠ b5 := ne_new gs19 hq_b5
  have ne_b1_b5 : b1 ≠ b5 := ne_new gf20 hq_b5
  have ne_b2_b5 : b2 ≠ b5 := ne_new gf21 hq_b5
  have ne_b3_b5 : b3 ≠ b5 := ne_new gf22 hq_b5
  have ne_b4_b5 : b4 ≠ b5 := ne_new gf23 hq_b5
  obtain ⟨h_24, gh24⟩ : ∃ z : Hp, z = hset h_19 b5 (.inl (0, 10, .inl (fun _ => 0))) := ⟨_, rfl⟩
  refine V.hp gh24 ?_
  have gk24 : ∀ q : Nat, q ≠ b5 → h_24 q = h_19 q := fun q hq => by rw [gh24]; exact hset_ne hq
  have gs24 : h_24 b5 = some (.inl (0, 10, .inl (fun _ => 0))) := by rw [gh24]; exact hset_eq
  have k5 := gk24
  have gf25 : h_24 a = some (.inr (4, [.int 0, .int (nI 255), .int 0, .ref b1, .ref b2, .ref b3, .ref b4, .null, .int 0, .int 0, .int 0, .null, .null])) := (gk24 a (by first | assumption | exact Ne.symm (by assumption) | omega)).trans gs19
  refine V.putF hG hF ko_RX4_27 hN (by decide +kernel) gf25 (fun C T N hc => by cases hc; exact ⟨rfl, rfl, (.array .int), by decide +kernel, rfl, rfl⟩) (Nat.le_of_ble_eq_true rfl) ?_
  obtain ⟨h_26, gh26⟩ : ∃ z : Hp, z = hset h_24 a (.inr (4, [.int 0, .int (nI 255), .int 0, .ref b1, .ref b2, .ref b3, .ref b4, .ref b5, .int 0, .int 0, .int 0, .null, .null])) := ⟨_, rfl⟩
  refine V.hp gh26 ?_
  have gk26 : ∀ q : Nat, q ≠ a → h_26 q = h_24 q := fun q hq => by rw [gh26]; exact hset_ne hq
  have gs26 : h_26 a = some (.inr (4, [.int 0, .int (nI 255), .int 0, .ref b1, .ref b2, .ref b3, .ref b4, .ref b5, .int 0, .int 0, .int 0, .null, .null])) := by rw [gh26]; exact hset_eq
  refine V.run hF [(.aload_n 0, 1, .null), (.bipush 48, 2, .int (nI 48))] (pc' := 55) (L' := [some (.ref a)]) (st' := [.int (nI 48), .ref a]) (by decide +kernel) rfl ?_
  have k5a := gk26
  have gf27 : h_26 b1 = some (.inl (0, 8, .inl (fun _ => 0))) := (gk26 b1 (by first | assumption | exact Ne.symm (by assumption) | omega)).trans ((gk24 b1 (by first | assumption | exact Ne.symm (by assumption) | omega)).trans gf20)
  have gf28 : h_26 b2 = some (.inl (1, 8, .inl (fun _ => 0))) := (gk26 b2 (by first | assumption | exact Ne.symm (by assumption) | omega)).trans ((gk24 b2 (by first | assumption | exact Ne.symm (by assumption) | omega)).trans gf21)
  have gf29 : h_26 b3 = some (.inl (0, 8, .inl (fun _ => 0))) := (gk26 b3 (by first | assumption | exact Ne.symm (by assumption) | omega)).trans ((gk24 b3 (by first | assumption | exact Ne.symm (by assumption) | omega)).trans gf22)
  have gf30 : h_26 b4 = some (.inl (0, 384, .inl (fun _ => 0))) := (gk26 b4 (by first | assumption | exact Ne.symm (by assumption) | omega)).trans ((gk24 b4 (by first | assumption | exact Ne.symm (by assumption) | omega)).trans gf23)
  have gf31 : h_26 b5 = some (.inl (0, 10, .inl (fun _ => 0))) := (gk26 b5 (by first | assumption | exact Ne.symm (by assumption) | omega)).trans gs24
  refine V.newa (aty := .int) (t := 0) (N := 48) (a0 := (48, .inl (fun _ => 0))) hG hF (by decide) rfl tw_arr_0.1 (by decide +kernel) (by decide) (by decide) (by decide) (fun _ => rfl) (fun b6 hq_b6 => ?_)
  have ne_a_b6 : a ≠ b6 := ne_new gs26 hq_b6
  have ne_b1_b6 : b1 ≠ b6 := ne_new gf27 hq_b6
  have ne_b2_b6 : b2 ≠ b6 := ne_new gf28 hq_b6
  have ne_b3_b6 : b3 ≠ b6 := ne_new gf29 hq_b6
  have ne_b4_b6 : b4 ≠ b6 := ne_new gf30 hq_b6
  have ne_b5_b6 : b5 ≠ b6 := ne_new gf31 hq_b6
  obtain ⟨h_32, gh32⟩ : ∃ z : Hp, z = hset h_26 b6 (.inl (0, 48, .inl (fun _ => 0))) := ⟨_, rfl⟩
  refine V.hp gh32 ?_
  have gk32 : ∀ q : Nat, q ≠ b6 → h_32 q = h_26 q := fun q hq => by rw [gh32]; exact hset_ne hq
  have gs32 : h_32 b6 = some (.inl (0, 48, .inl (fun _ => 0))) := by rw [gh32]; exact hset_eq
  have k6 := gk32
  have gf33 : h_32 a = some (.inr (4, [.int 0, .int (nI 255), .int 0, .ref b1, .ref b2, .ref b3, .ref b4, .ref b5, .int 0, .int 0, .int 0, .null, .null])) := (gk32 a (by first | assumption | exact Ne.symm (by assumption) | omega)).trans gs26
  refine V.putF hG hF ko_RX4_30 hN (by decide +kernel) gf33 (fun C T N hc => by cases hc; exact ⟨rfl, rfl, (.array .int), by decide +kernel, rfl, rfl⟩) (Nat.le_of_ble_eq_true rfl) ?_
  obtain ⟨h_34, gh34⟩ : ∃ z : Hp, z = hset h_32 a (.inr (4, [.int 0, .int (nI 255), .int 0, .ref b1, .ref b2, .ref b3, .ref b4, .ref b5, .int 0, .int 0, .int 0, .ref b6, .null])) := ⟨_, rfl⟩
  refine V.hp gh34 ?_
  have gk34 : ∀ q : Nat, q ≠ a → h_34 q = h_32 q := fun q hq => by rw [gh34]; exact hset_ne hq
  have gs34 : h_34 a = some (.inr (4, [.int 0, .int (nI 255), .int 0, .ref b1, .ref b2, .ref b3, .ref b4, .ref b5, .int 0, .int 0, .int 0, .ref b6, .null])) := by rw [gh34]; exact hset_eq
  refine V.run hF [(.aload_n 0, 1, .null), (.bipush 8, 2, .int (nI 8))] (pc' := 63) (L' := [some (.ref a)]) (st' := [.int (nI 8), .ref a]) (by decide +kernel) rfl ?_
  have k6a := gk34
  have gf35 : h_34 b1 = some (.inl (0, 8, .inl (fun _ => 0))) := (gk34 b1 (by first | assumption | exact Ne.symm (by assumption) | omega)).trans ((gk32 b1 (by first | assumption | exact Ne.symm (by assumption) | omega)).trans gf27)
  have gf36 : h_34 b2 = some (.inl (1, 8, .inl (fun _ => 0))) := (gk34 b2 (by first | assumption | exact Ne.symm (by assumption) | omega)).trans ((gk32 b2 (by first | assumption | exact Ne.symm (by assumption) | omega)).trans gf28)
  have gf37 : h_34 b3 = some (.inl (0, 8, .inl (fun _ => 0))) := (gk34 b3 (by first | assumption | exact Ne.symm (by assumption) | omega)).trans ((gk32 b3 (by first | assumption | exact Ne.symm (by assumption) | omega)).trans gf29)
  have gf38 : h_34 b4 = some (.inl (0, 384, .inl (fun _ => 0))) := (gk34 b4 (by first | assumption | exact Ne.symm (by assumption) | omega)).trans ((gk32 b4 (by first | assumption | exact Ne.symm (by assumption) | omega)).trans gf30)
  have gf39 : h_34 b5 = some (.inl (0, 10, .inl (fun _ => 0))) := (gk34 b5 (by first | assumption | exact Ne.symm (by assumption) | omega)).trans ((gk32 b5 (by first | assumption | exact Ne.symm (by assumption) | omega)).trans gf31)
  have gf40 : h_34 b6 = some (.inl (0, 48, .inl (fun _ => 0))) := (gk34 b6 (by first | assumption | exact Ne.symm (by assumption) | omega)).trans gs32
  refine V.newa (aty := .int) (t := 0) (N := 8) (a0 := (8, .inl (fun _ => 0))) hG hF (by decide) rfl tw_arr_0.1 (by decide +kernel) (by decide) (by decide) (by decide) (fun _ => rfl) (fun b7 hq_b7 => ?_)
  have ne_a_b7 : a ≠ b7 := ne_new gs34 hq_b7
  have ne_b1_b7 : b1 ≠ b7 := ne_new gf35 hq_b7
  have ne_b2_b7 : b2 ≠ b7 := ne_new gf36 hq_b7
  have ne_b3_b7 : b3 ≠ b7 := ne_new gf37 hq_b7
  have ne_b4_b7 : b4 ≠ b7 := ne_new gf38 hq_b7
  have ne_b5_b7 : b5 ≠ b7 := ne_new gf39 hq_b7
  have ne_b6_b7 : b6 ≠ b7 := ne_new gf40 hq_b7
  obtain ⟨h_41, gh41⟩ : ∃ z : Hp, z = hset h_34 b7 (.inl (0, 8, .inl (fun _ => 0))) := ⟨_, rfl⟩
  refine V.hp gh41 ?_
  have gk41 : ∀ q : Nat, q ≠ b7 → h_41 q = h_34 q := fun q hq => by rw [gh41]; exact hset_ne hq
  have gs41 : h_41 b7 = some (.inl (0, 8, .inl (fun _ => 0))) := by rw [gh41]; exact hset_eq
  have k7 := gk41
  have gf42 : h_41 a = some (.inr (4, [.int 0, .int (nI 255), .int 0, .ref b1, .ref b2, .ref b3, .ref b4, .ref b5, .int 0, .int 0, .int 0, .ref b6, .null])) := (gk41 a (by first | assumption | exact Ne.symm (by assumption) | omega)).trans gs34
  refine V.putF hG hF ko_RX4_33 hN (by decide +kernel) gf42 (fun C T N hc => by cases hc; exact ⟨rfl, rfl, (.array .int), by decide +kernel, rfl, rfl⟩) (Nat.le_of_ble_eq_true rfl) ?_
  obtain ⟨h_43, gh43⟩ : ∃ z : Hp, z = hset h_41 a (.inr (4, [.int 0, .int (nI 255), .int 0, .ref b1, .ref b2, .ref b3, .ref b4, .ref b5, .int 0, .int 0, .int 0, .ref b6, .ref b7])) := ⟨_, rfl⟩
  refine V.hp gh43 ?_
  have gk43 : ∀ q : Nat, q ≠ a → h_43 q = h_41 q := fun q hq => by rw [gh43]; exact hset_ne hq
  have gs43 : h_43 a = some (.inr (4, [.int 0, .int (nI 255), .int 0, .ref b1, .ref b2, .ref b3, .ref b4, .ref b5, .int 0, .int 0, .int 0, .ref b6, .ref b7])) := by rw [gh43]; exact hset_eq
  have k7a := gk43
  have g0 := gs43
  have gf44 : h_43 b1 = some (.inl (0, 8, .inl (fun _ => 0))) := (gk43 b1 (by first | assumption | exact Ne.symm (by assumption) | omega)).trans ((gk41 b1 (by first | assumption | exact Ne.symm (by assumption) | omega)).trans gf35)
  have g1 := gf44
  have gf45 : h_43 b2 = some (.inl (1, 8, .inl (fun _ => 0))) := (gk43 b2 (by first | assumption | exact Ne.symm (by assumption) | omega)).trans ((gk41 b2 (by first | assumption | exact Ne.symm (by assumption) | omega)).trans gf36)
  have g2 := gf45
  have gf46 : h_43 b3 = some (.inl (0, 8, .inl (fun _ => 0))) := (gk43 b3 (by first | assumption | exact Ne.symm (by assumption) | omega)).trans ((gk41 b3 (by first | assumption | exact Ne.symm (by assumption) | omega)).trans gf37)
  have g3 := gf46
  have gf47 : h_43 b4 = some (.inl (0, 384, .inl (fun _ => 0))) := (gk43 b4 (by first | assumption | exact Ne.symm (by assumption) | omega)).trans ((gk41 b4 (by first | assumption | exact Ne.symm (by assumption) | omega)).trans gf38)
  have g4 := gf47
  have gf48 : h_43 b5 = some (.inl (0, 10, .inl (fun _ => 0))) := (gk43 b5 (by first | assumption | exact Ne.symm (by assumption) | omega)).trans ((gk41 b5 (by first | assumption | exact Ne.symm (by assumption) | omega)).trans gf39)
  have g5 := gf48
  have gf49 : h_43 b6 = some (.inl (0, 48, .inl (fun _ => 0))) := (gk43 b6 (by first | assumption | exact Ne.symm (by assumption) | omega)).trans ((gk41 b6 (by first | assumption | exact Ne.symm (by assumption) | omega)).trans gf40)
  have g6 := gf49
  have gf50 : h_43 b7 = some (.inl (0, 8, .inl (fun _ => 0))) := (gk43 b7 (by first | assumption | exact Ne.symm (by assumption) | omega)).trans gs41
  have g7 := gf50
  have nod : List.Nodup [a, b1, b2, b3, b4, b5, b6, b7] := by
    simp only [List.nodup_cons, List.mem_cons, not_or, List.not_mem_nil, not_false_eq_true, List.nodup_nil, and_true]
    and_intros <;> assumption
  have f1 : h b1 = none := by rw [← k0 b1 (Ne.symm ne_a_b1)]; exact hq_b1
  have f2 : h b2 = none := by rw [← k0 b2 (Ne.symm ne_a_b2), ← k1 b2 (Ne.symm ne_b1_b2), ← k1a b2 (Ne.symm ne_a_b2)]; exact hq_b2
  have f3 : h b3 = none := by rw [← k0 b3 (Ne.symm ne_a_b3), ← k1 b3 (Ne.symm ne_b1_b3), ← k1a b3 (Ne.symm ne_a_b3), ← k2 b3 (Ne.symm ne_b2_b3), ← k2a b3 (Ne.symm ne_a_b3)]; exact hq_b3
  have f4 : h b4 = none := by rw [← k0 b4 (Ne.symm ne_a_b4), ← k1 b4 (Ne.symm ne_b1_b4), ← k1a b4 (Ne.symm ne_a_b4), ← k2 b4 (Ne.symm ne_b2_b4), ← k2a b4 (Ne.symm ne_a_b4), ← k3 b4 (Ne.symm ne_b3_b4), ← k3a b4 (Ne.symm ne_a_b4)]; exact hq_b4
  have f5 : h b5 = none := by rw [← k0 b5 (Ne.symm ne_a_b5), ← k1 b5 (Ne.symm ne_b1_b5), ← k1a b5 (Ne.symm ne_a_b5), ← k2 b5 (Ne.symm ne_b2_b5), ← k2a b5 (Ne.symm ne_a_b5), ← k3 b5 (Ne.symm ne_b3_b5), ← k3a b5 (Ne.symm ne_a_b5), ← k4 b5 (Ne.symm ne_b4_b5), ← k4a b5 (Ne.symm ne_a_b5)]; exact hq_b5
  have f6 : h b6 = none := by rw [← k0 b6 (Ne.symm ne_a_b6), ← k1 b6 (Ne.symm ne_b1_b6), ← k1a b6 (Ne.symm ne_a_b6), ← k2 b6 (Ne.symm ne_b2_b6), ← k2a b6 (Ne.symm ne_a_b6), ← k3 b6 (Ne.symm ne_b3_b6), ← k3a b6 (Ne.symm ne_a_b6), ← k4 b6 (Ne.symm ne_b4_b6), ← k4a b6 (Ne.symm ne_a_b6), ← k5 b6 (Ne.symm ne_b5_b6), ← k5a b6 (Ne.symm ne_a_b6)]; exact hq_b6
  have f7 : h b7 = none := by rw [← k0 b7 (Ne.symm ne_a_b7), ← k1 b7 (Ne.symm ne_b1_b7), ← k1a b7 (Ne.symm ne_a_b7), ← k2 b7 (Ne.symm ne_b2_b7), ← k2a b7 (Ne.symm ne_a_b7), ← k3 b7 (Ne.symm ne_b3_b7), ← k3a b7 (Ne.symm ne_a_b7), ← k4 b7 (Ne.symm ne_b4_b7), ← k4a b7 (Ne.symm ne_a_b7), ← k5 b7 (Ne.symm ne_b5_b7), ← k5a b7 (Ne.symm ne_a_b7), ← k6 b7 (Ne.symm ne_b6_b7), ← k6a b7 (Ne.symm ne_a_b7)]; exact hq_b7
  exact V.retv hF (by decide +kernel) ⟨rfl, li12 [a, b1, b2, b3, b4, b5, b6, b7], rfl, ⟨li_inj nod, g0, g1, g2, g3, g4, g5, g6, g7⟩, fun i i1 i2 => by
    have : i = 1 ∨ i = 2 ∨ i = 3 ∨ i = 4 ∨ i = 5 ∨ i = 6 ∨ i = 7 := by omega
    rcases this with rfl | rfl | rfl | rfl | rfl | rfl | rfl
    · exact f1
    · exact f2
    · exact f3
    · exact f4
    · exact f5
    · exact f6
    · exact f7, fun q hq => by
    have e0 : q ≠ a := hq 0 (by decide)
    rw [k7a q e0, k7 q (hq 7 (by decide)), k6a q e0, k6 q (hq 6 (by decide)), k5a q e0, k5 q (hq 5 (by decide)), k4a q e0, k4 q (hq 4 (by decide)), k3a q e0, k3 q (hq 3 (by decide)), k2a q e0, k2 q (hq 2 (by decide)), k1a q e0, k1 q (hq 1 (by decide)), k0 q e0]⟩
end Na
