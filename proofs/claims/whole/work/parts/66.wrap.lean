/-! ===== the law's calls of the class behind its handlers ===== -/
section Wr
variable {G : Gt} {h : Hp} {a c : Nat} {vs : List Value} {po : Option Value → Hp → Prop} {px : String → Hp → Prop}
set_option maxHeartbeats 4000000 in
theorem w_addTablet (hG : GOk G) (hN : GNc G) {p0 : Int32} (hM : Ct G yX3_addTablet (.code yX3_addTablet cX3_addTablet 3 (some .int)) 6 82 6 56 [.ref a, .int p0] h po px) (hA : h a = some (.inr (3, vs))) (hv : ∀ v h2, po v h2 → ∃ z o, v = some (.int z) ∧ h2 c = some (out1 o)) (hx : ∀ E h2, px E h2 → E = eA ∨ E = eS) :
    Ct G yL_addTablet (.codeWith yL_addTablet cL_addTablet 4 (some .int) [(0, 9, 12, 13), (0, 9, 15, 15)]) 7 104 6 56 [.ref a, .int p0, .ref c] h (wI Int32.toInt64 po px c cdAS) pxN := by
  refine Ct.ofH (by decide +kernel) (Nat.le_of_ble_eq_true rfl) fun F hF ht hRm => ?_
  refine V.run hF [(.aload_n 2, 1, .null), (.iconst 0, 1, .int (nI 0)), (.aload_n 0, 1, .null), (.iload_n 1, 1, .null)] (pc' := 4) (L' := [some (.ref a), some (.int p0), some (.ref c), none]) (st' := [.int p0, .ref a, .int (nI 0), .ref c]) (by decide +kernel) rfl ?_
  refine V.callV (As := [.int p0]) (st := [.int (nI 0), .ref c]) hG hF k_RL_7 (by decide +kernel) hM hA rfl rfl ⟨by rw [hRm]; decide, by rw [hRm]; decide⟩ (Nat.le_of_ble_eq_true rfl) rfl (fun v h2 hp => ?_) (fun E h9 hx9 => ?_)
  · obtain ⟨y, o, rfl, hc2⟩ := hv v h2 hp
    show V G F _ _ _ 7 [some (.ref a), some (.int p0), some (.ref c), none] [.int y, .int (nI 0), .ref c] h2
    refine V.run hF [(.i2l, 1, .null)] (pc' := 8) (L' := [some (.ref a), some (.int p0), some (.ref c), none]) (st' := [.long (Int32.toInt64 y), .int (nI 0), .ref c]) (by decide +kernel) rfl ?_
    refine V.lastN (j := 0) hG hF (by decide +kernel) hc2 (by omega) (by decide) ?_
    obtain ⟨h_2, gh2⟩ : ∃ z : Hp, z = hset h2 c (.inl (2, 1, .inr (.inl (vp_updL o 0 (Int32.toInt64 y))))) := ⟨_, rfl⟩
    refine V.hp gh2 ?_
    have gk2 : ∀ q : Nat, q ≠ c → h_2 q = h2 q := fun q hq => by rw [gh2]; exact hset_ne hq
    have gs2 : h_2 c = some (.inl (2, 1, .inr (.inl (vp_updL o 0 (Int32.toInt64 y))))) := by rw [gh2]; exact hset_eq
    refine V.run hF [(.goto 9, 3, .null), (.iconst 0, 1, .int 0)] (pc' := 19) (L' := [some (.ref a), some (.int p0), some (.ref c), none]) (st' := [.int 0]) (by decide +kernel) rfl ?_
    exact V.reti hF (by decide +kernel) (Or.inl ⟨y, h2, o, hp, hc2, rfl, by assumption⟩)
  · rcases hx E h9 hx9 with rfl | rfl
    · refine VX.catch1 hG hF ht ⟨0, 9, 12, 13⟩ _ rfl (by decide) (by decide) tw_378 twc_A (fun q => ?_)
      show V G F _ _ _ 12 [some (.ref a), some (.int p0), some (.ref c), none] [.ref q] h9
      refine V.run hF [(.astore_n 3, 1, .null), (.iconst 1, 1, .int 1)] (pc' := 14) (L' := [some (.ref a), some (.int p0), some (.ref c), some (.ref q)]) (st' := [.int 1]) (by decide +kernel) rfl ?_
      exact V.reti hF (by decide +kernel) (Or.inr ⟨_, _, hx9, (Or.inl ⟨rfl, rfl⟩), rfl⟩)
    · refine VX.catch2 hG hF ht ⟨0, 9, 12, 13⟩ ⟨0, 9, 15, 15⟩ _ rfl (by decide) tw_378 hN.2.2 (by decide) (by decide) tw_379 twc_S (fun q => ?_)
      show V G F _ _ _ 15 [some (.ref a), some (.int p0), some (.ref c), none] [.ref q] h9
      refine V.run hF [(.astore_n 3, 1, .null), (.iconst 2, 1, .int 2)] (pc' := 17) (L' := [some (.ref a), some (.int p0), some (.ref c), some (.ref q)]) (st' := [.int 2]) (by decide +kernel) rfl ?_
      exact V.reti hF (by decide +kernel) (Or.inr ⟨_, _, hx9, (Or.inr ⟨rfl, rfl⟩), rfl⟩)
set_option maxHeartbeats 4000000 in
theorem w_write (hG : GOk G) (hN : GNc G) {p0 p1 p2 p3 p4 : Int32} (hM : Ct G yX3_write (.code yX3_write cX3_write 8 (some .int)) 7 104 8 48 [.ref a, .int p0, .int p1, .int p2, .int p3, .int p4] h po px) (hA : h a = some (.inr (3, vs))) (hv : ∀ v h2, po v h2 → ∃ z o, v = some (.int z) ∧ h2 c = some (out1 o)) (hx : ∀ E h2, px E h2 → E = eI ∨ E = eA ∨ E = eS) :
    Ct G yL_write (.codeWith yL_write cL_write 8 (some .int) [(0, 16, 19, 21), (0, 16, 23, 13), (0, 16, 27, 15)]) 8 131 8 48 [.ref a, .int p0, .int p1, .int p2, .int p3, .int p4, .ref c] h (wI Int32.toInt64 po px c cdIAS) pxN := by
  refine Ct.ofH (by decide +kernel) (Nat.le_of_ble_eq_true rfl) fun F hF ht hRm => ?_
  refine V.run hF [(.aload 6, 2, .null), (.iconst 0, 1, .int (nI 0)), (.aload_n 0, 1, .null), (.iload_n 1, 1, .null), (.iload_n 2, 1, .null), (.iload_n 3, 1, .null), (.iload 4, 2, .null), (.iload 5, 2, .null)] (pc' := 11) (L' := [some (.ref a), some (.int p0), some (.int p1), some (.int p2), some (.int p3), some (.int p4), some (.ref c), none]) (st' := [.int p4, .int p3, .int p2, .int p1, .int p0, .ref a, .int (nI 0), .ref c]) (by decide +kernel) rfl ?_
  refine V.callV (As := [.int p0, .int p1, .int p2, .int p3, .int p4]) (st := [.int (nI 0), .ref c]) hG hF k_RL_17 (by decide +kernel) hM hA rfl rfl ⟨by rw [hRm]; decide, by rw [hRm]; decide⟩ (Nat.le_of_ble_eq_true rfl) rfl (fun v h2 hp => ?_) (fun E h9 hx9 => ?_)
  · obtain ⟨y, o, rfl, hc2⟩ := hv v h2 hp
    show V G F _ _ _ 14 [some (.ref a), some (.int p0), some (.int p1), some (.int p2), some (.int p3), some (.int p4), some (.ref c), none] [.int y, .int (nI 0), .ref c] h2
    refine V.run hF [(.i2l, 1, .null)] (pc' := 15) (L' := [some (.ref a), some (.int p0), some (.int p1), some (.int p2), some (.int p3), some (.int p4), some (.ref c), none]) (st' := [.long (Int32.toInt64 y), .int (nI 0), .ref c]) (by decide +kernel) rfl ?_
    refine V.lastN (j := 0) hG hF (by decide +kernel) hc2 (by omega) (by decide) ?_
    obtain ⟨h_2, gh2⟩ : ∃ z : Hp, z = hset h2 c (.inl (2, 1, .inr (.inl (vp_updL o 0 (Int32.toInt64 y))))) := ⟨_, rfl⟩
    refine V.hp gh2 ?_
    have gk2 : ∀ q : Nat, q ≠ c → h_2 q = h2 q := fun q hq => by rw [gh2]; exact hset_ne hq
    have gs2 : h_2 c = some (.inl (2, 1, .inr (.inl (vp_updL o 0 (Int32.toInt64 y))))) := by rw [gh2]; exact hset_eq
    refine V.run hF [(.goto 15, 3, .null), (.iconst 0, 1, .int 0)] (pc' := 32) (L' := [some (.ref a), some (.int p0), some (.int p1), some (.int p2), some (.int p3), some (.int p4), some (.ref c), none]) (st' := [.int 0]) (by decide +kernel) rfl ?_
    exact V.reti hF (by decide +kernel) (Or.inl ⟨y, h2, o, hp, hc2, rfl, by assumption⟩)
  · rcases hx E h9 hx9 with rfl | rfl | rfl
    · refine VX.catch1 hG hF ht ⟨0, 16, 19, 21⟩ _ rfl (by decide) (by decide) tw_422 twc_I (fun q => ?_)
      show V G F _ _ _ 19 [some (.ref a), some (.int p0), some (.int p1), some (.int p2), some (.int p3), some (.int p4), some (.ref c), none] [.ref q] h9
      refine V.run hF [(.astore 7, 2, .null), (.iconst 1, 1, .int 1)] (pc' := 22) (L' := [some (.ref a), some (.int p0), some (.int p1), some (.int p2), some (.int p3), some (.int p4), some (.ref c), some (.ref q)]) (st' := [.int 1]) (by decide +kernel) rfl ?_
      exact V.reti hF (by decide +kernel) (Or.inr ⟨_, _, hx9, (Or.inl ⟨rfl, rfl⟩), rfl⟩)
    · refine VX.catch2 hG hF ht ⟨0, 16, 19, 21⟩ ⟨0, 16, 23, 13⟩ _ rfl (by decide) tw_422 hN.1 (by decide) (by decide) tw_378 twc_A (fun q => ?_)
      show V G F _ _ _ 23 [some (.ref a), some (.int p0), some (.int p1), some (.int p2), some (.int p3), some (.int p4), some (.ref c), none] [.ref q] h9
      refine V.run hF [(.astore 7, 2, .null), (.iconst 2, 1, .int 2)] (pc' := 26) (L' := [some (.ref a), some (.int p0), some (.int p1), some (.int p2), some (.int p3), some (.int p4), some (.ref c), some (.ref q)]) (st' := [.int 2]) (by decide +kernel) rfl ?_
      exact V.reti hF (by decide +kernel) (Or.inr ⟨_, _, hx9, (Or.inr (Or.inl ⟨rfl, rfl⟩)), rfl⟩)
    · refine VX.catch3 hG hF ht ⟨0, 16, 19, 21⟩ ⟨0, 16, 23, 13⟩ ⟨0, 16, 27, 15⟩ _ rfl (by decide) tw_422 hN.2.1 (by decide) tw_378 hN.2.2 (by decide) (by decide) tw_379 twc_S (fun q => ?_)
      show V G F _ _ _ 27 [some (.ref a), some (.int p0), some (.int p1), some (.int p2), some (.int p3), some (.int p4), some (.ref c), none] [.ref q] h9
      refine V.run hF [(.astore 7, 2, .null), (.iconst 3, 1, .int 3)] (pc' := 30) (L' := [some (.ref a), some (.int p0), some (.int p1), some (.int p2), some (.int p3), some (.int p4), some (.ref c), some (.ref q)]) (st' := [.int 3]) (by decide +kernel) rfl ?_
      exact V.reti hF (by decide +kernel) (Or.inr ⟨_, _, hx9, (Or.inr (Or.inr ⟨rfl, rfl⟩)), rfl⟩)
set_option maxHeartbeats 4000000 in
theorem w_pay (hG : GOk G) (hN : GNc G) {p0 p1 p2 : Int32} (hM : Ct G yX3_pay (.code yX3_pay cX3_pay 6 (some .int)) 8 127 3 18 [.ref a, .int p0, .int p1, .int p2] h po px) (hA : h a = some (.inr (3, vs))) (hv : ∀ v h2, po v h2 → ∃ z o, v = some (.int z) ∧ h2 c = some (out1 o)) (hx : ∀ E h2, px E h2 → E = eI ∨ E = eA) :
    Ct G yL_pay (.codeWith yL_pay cL_pay 6 (some .int) [(0, 12, 15, 21), (0, 12, 19, 13)]) 9 152 3 18 [.ref a, .int p0, .int p1, .int p2, .ref c] h (wI Int32.toInt64 po px c cdIA) pxN := by
  refine Ct.ofH (by decide +kernel) (Nat.le_of_ble_eq_true rfl) fun F hF ht hRm => ?_
  refine V.run hF [(.aload 4, 2, .null), (.iconst 0, 1, .int (nI 0)), (.aload_n 0, 1, .null), (.iload_n 1, 1, .null), (.iload_n 2, 1, .null), (.iload_n 3, 1, .null)] (pc' := 7) (L' := [some (.ref a), some (.int p0), some (.int p1), some (.int p2), some (.ref c), none]) (st' := [.int p2, .int p1, .int p0, .ref a, .int (nI 0), .ref c]) (by decide +kernel) rfl ?_
  refine V.callV (As := [.int p0, .int p1, .int p2]) (st := [.int (nI 0), .ref c]) hG hF k_RL_23 (by decide +kernel) hM hA rfl rfl ⟨by rw [hRm]; decide, by rw [hRm]; decide⟩ (Nat.le_of_ble_eq_true rfl) rfl (fun v h2 hp => ?_) (fun E h9 hx9 => ?_)
  · obtain ⟨y, o, rfl, hc2⟩ := hv v h2 hp
    show V G F _ _ _ 10 [some (.ref a), some (.int p0), some (.int p1), some (.int p2), some (.ref c), none] [.int y, .int (nI 0), .ref c] h2
    refine V.run hF [(.i2l, 1, .null)] (pc' := 11) (L' := [some (.ref a), some (.int p0), some (.int p1), some (.int p2), some (.ref c), none]) (st' := [.long (Int32.toInt64 y), .int (nI 0), .ref c]) (by decide +kernel) rfl ?_
    refine V.lastN (j := 0) hG hF (by decide +kernel) hc2 (by omega) (by decide) ?_
    obtain ⟨h_2, gh2⟩ : ∃ z : Hp, z = hset h2 c (.inl (2, 1, .inr (.inl (vp_updL o 0 (Int32.toInt64 y))))) := ⟨_, rfl⟩
    refine V.hp gh2 ?_
    have gk2 : ∀ q : Nat, q ≠ c → h_2 q = h2 q := fun q hq => by rw [gh2]; exact hset_ne hq
    have gs2 : h_2 c = some (.inl (2, 1, .inr (.inl (vp_updL o 0 (Int32.toInt64 y))))) := by rw [gh2]; exact hset_eq
    refine V.run hF [(.goto 11, 3, .null), (.iconst 0, 1, .int 0)] (pc' := 24) (L' := [some (.ref a), some (.int p0), some (.int p1), some (.int p2), some (.ref c), none]) (st' := [.int 0]) (by decide +kernel) rfl ?_
    exact V.reti hF (by decide +kernel) (Or.inl ⟨y, h2, o, hp, hc2, rfl, by assumption⟩)
  · rcases hx E h9 hx9 with rfl | rfl
    · refine VX.catch1 hG hF ht ⟨0, 12, 15, 21⟩ _ rfl (by decide) (by decide) tw_422 twc_I (fun q => ?_)
      show V G F _ _ _ 15 [some (.ref a), some (.int p0), some (.int p1), some (.int p2), some (.ref c), none] [.ref q] h9
      refine V.run hF [(.astore 5, 2, .null), (.iconst 1, 1, .int 1)] (pc' := 18) (L' := [some (.ref a), some (.int p0), some (.int p1), some (.int p2), some (.ref c), some (.ref q)]) (st' := [.int 1]) (by decide +kernel) rfl ?_
      exact V.reti hF (by decide +kernel) (Or.inr ⟨_, _, hx9, (Or.inl ⟨rfl, rfl⟩), rfl⟩)
    · refine VX.catch2 hG hF ht ⟨0, 12, 15, 21⟩ ⟨0, 12, 19, 13⟩ _ rfl (by decide) tw_422 hN.1 (by decide) (by decide) tw_378 twc_A (fun q => ?_)
      show V G F _ _ _ 19 [some (.ref a), some (.int p0), some (.int p1), some (.int p2), some (.ref c), none] [.ref q] h9
      refine V.run hF [(.astore 5, 2, .null), (.iconst 2, 1, .int 2)] (pc' := 22) (L' := [some (.ref a), some (.int p0), some (.int p1), some (.int p2), some (.ref c), some (.ref q)]) (st' := [.int 2]) (by decide +kernel) rfl ?_
      exact V.reti hF (by decide +kernel) (Or.inr ⟨_, _, hx9, (Or.inr ⟨rfl, rfl⟩), rfl⟩)
set_option maxHeartbeats 4000000 in
theorem w_deny (hG : GOk G) (hN : GNc G) {p0 p1 : Int32} (hM : Ct G yX3_deny (.code yX3_deny cX3_deny 5 (some .int)) 8 127 4 24 [.ref a, .int p0, .int p1] h po px) (hA : h a = some (.inr (3, vs))) (hv : ∀ v h2, po v h2 → ∃ z o, v = some (.int z) ∧ h2 c = some (out1 o)) (hx : ∀ E h2, px E h2 → E = eI ∨ E = eS) :
    Ct G yL_deny (.codeWith yL_deny cL_deny 5 (some .int) [(0, 10, 13, 21), (0, 10, 17, 15)]) 9 151 4 24 [.ref a, .int p0, .int p1, .ref c] h (wI Int32.toInt64 po px c cdIS) pxN := by
  refine Ct.ofH (by decide +kernel) (Nat.le_of_ble_eq_true rfl) fun F hF ht hRm => ?_
  refine V.run hF [(.aload_n 3, 1, .null), (.iconst 0, 1, .int (nI 0)), (.aload_n 0, 1, .null), (.iload_n 1, 1, .null), (.iload_n 2, 1, .null)] (pc' := 5) (L' := [some (.ref a), some (.int p0), some (.int p1), some (.ref c), none]) (st' := [.int p1, .int p0, .ref a, .int (nI 0), .ref c]) (by decide +kernel) rfl ?_
  refine V.callV (As := [.int p0, .int p1]) (st := [.int (nI 0), .ref c]) hG hF k_RL_27 (by decide +kernel) hM hA rfl rfl ⟨by rw [hRm]; decide, by rw [hRm]; decide⟩ (Nat.le_of_ble_eq_true rfl) rfl (fun v h2 hp => ?_) (fun E h9 hx9 => ?_)
  · obtain ⟨y, o, rfl, hc2⟩ := hv v h2 hp
    show V G F _ _ _ 8 [some (.ref a), some (.int p0), some (.int p1), some (.ref c), none] [.int y, .int (nI 0), .ref c] h2
    refine V.run hF [(.i2l, 1, .null)] (pc' := 9) (L' := [some (.ref a), some (.int p0), some (.int p1), some (.ref c), none]) (st' := [.long (Int32.toInt64 y), .int (nI 0), .ref c]) (by decide +kernel) rfl ?_
    refine V.lastN (j := 0) hG hF (by decide +kernel) hc2 (by omega) (by decide) ?_
    obtain ⟨h_2, gh2⟩ : ∃ z : Hp, z = hset h2 c (.inl (2, 1, .inr (.inl (vp_updL o 0 (Int32.toInt64 y))))) := ⟨_, rfl⟩
    refine V.hp gh2 ?_
    have gk2 : ∀ q : Nat, q ≠ c → h_2 q = h2 q := fun q hq => by rw [gh2]; exact hset_ne hq
    have gs2 : h_2 c = some (.inl (2, 1, .inr (.inl (vp_updL o 0 (Int32.toInt64 y))))) := by rw [gh2]; exact hset_eq
    refine V.run hF [(.goto 11, 3, .null), (.iconst 0, 1, .int 0)] (pc' := 22) (L' := [some (.ref a), some (.int p0), some (.int p1), some (.ref c), none]) (st' := [.int 0]) (by decide +kernel) rfl ?_
    exact V.reti hF (by decide +kernel) (Or.inl ⟨y, h2, o, hp, hc2, rfl, by assumption⟩)
  · rcases hx E h9 hx9 with rfl | rfl
    · refine VX.catch1 hG hF ht ⟨0, 10, 13, 21⟩ _ rfl (by decide) (by decide) tw_422 twc_I (fun q => ?_)
      show V G F _ _ _ 13 [some (.ref a), some (.int p0), some (.int p1), some (.ref c), none] [.ref q] h9
      refine V.run hF [(.astore 4, 2, .null), (.iconst 1, 1, .int 1)] (pc' := 16) (L' := [some (.ref a), some (.int p0), some (.int p1), some (.ref c), some (.ref q)]) (st' := [.int 1]) (by decide +kernel) rfl ?_
      exact V.reti hF (by decide +kernel) (Or.inr ⟨_, _, hx9, (Or.inl ⟨rfl, rfl⟩), rfl⟩)
    · refine VX.catch2 hG hF ht ⟨0, 10, 13, 21⟩ ⟨0, 10, 17, 15⟩ _ rfl (by decide) tw_422 hN.2.1 (by decide) (by decide) tw_379 twc_S (fun q => ?_)
      show V G F _ _ _ 17 [some (.ref a), some (.int p0), some (.int p1), some (.ref c), none] [.ref q] h9
      refine V.run hF [(.astore 4, 2, .null), (.iconst 2, 1, .int 2)] (pc' := 20) (L' := [some (.ref a), some (.int p0), some (.int p1), some (.ref c), some (.ref q)]) (st' := [.int 2]) (by decide +kernel) rfl ?_
      exact V.reti hF (by decide +kernel) (Or.inr ⟨_, _, hx9, (Or.inr ⟨rfl, rfl⟩), rfl⟩)
set_option maxHeartbeats 4000000 in
theorem w_smooth (hG : GOk G) (hN : GNc G) {p0 : Int32} (hM : Ct G yX3_smooth (.code yX3_smooth cX3_smooth 3 (some .int)) 7 104 2 12 [.ref a, .int p0] h po px) (hA : h a = some (.inr (3, vs))) (hv : ∀ v h2, po v h2 → ∃ z o, v = some (.int z) ∧ h2 c = some (out1 o)) (hx : ∀ E h2, px E h2 → E = eI ∨ E = eS) :
    Ct G yL_smooth (.codeWith yL_smooth cL_smooth 4 (some .int) [(0, 9, 12, 21), (0, 9, 15, 15)]) 8 126 2 12 [.ref a, .int p0, .ref c] h (wI Int32.toInt64 po px c cdIS) pxN := by
  refine Ct.ofH (by decide +kernel) (Nat.le_of_ble_eq_true rfl) fun F hF ht hRm => ?_
  refine V.run hF [(.aload_n 2, 1, .null), (.iconst 0, 1, .int (nI 0)), (.aload_n 0, 1, .null), (.iload_n 1, 1, .null)] (pc' := 4) (L' := [some (.ref a), some (.int p0), some (.ref c), none]) (st' := [.int p0, .ref a, .int (nI 0), .ref c]) (by decide +kernel) rfl ?_
  refine V.callV (As := [.int p0]) (st := [.int (nI 0), .ref c]) hG hF k_RL_31 (by decide +kernel) hM hA rfl rfl ⟨by rw [hRm]; decide, by rw [hRm]; decide⟩ (Nat.le_of_ble_eq_true rfl) rfl (fun v h2 hp => ?_) (fun E h9 hx9 => ?_)
  · obtain ⟨y, o, rfl, hc2⟩ := hv v h2 hp
    show V G F _ _ _ 7 [some (.ref a), some (.int p0), some (.ref c), none] [.int y, .int (nI 0), .ref c] h2
    refine V.run hF [(.i2l, 1, .null)] (pc' := 8) (L' := [some (.ref a), some (.int p0), some (.ref c), none]) (st' := [.long (Int32.toInt64 y), .int (nI 0), .ref c]) (by decide +kernel) rfl ?_
    refine V.lastN (j := 0) hG hF (by decide +kernel) hc2 (by omega) (by decide) ?_
    obtain ⟨h_2, gh2⟩ : ∃ z : Hp, z = hset h2 c (.inl (2, 1, .inr (.inl (vp_updL o 0 (Int32.toInt64 y))))) := ⟨_, rfl⟩
    refine V.hp gh2 ?_
    have gk2 : ∀ q : Nat, q ≠ c → h_2 q = h2 q := fun q hq => by rw [gh2]; exact hset_ne hq
    have gs2 : h_2 c = some (.inl (2, 1, .inr (.inl (vp_updL o 0 (Int32.toInt64 y))))) := by rw [gh2]; exact hset_eq
    refine V.run hF [(.goto 9, 3, .null), (.iconst 0, 1, .int 0)] (pc' := 19) (L' := [some (.ref a), some (.int p0), some (.ref c), none]) (st' := [.int 0]) (by decide +kernel) rfl ?_
    exact V.reti hF (by decide +kernel) (Or.inl ⟨y, h2, o, hp, hc2, rfl, by assumption⟩)
  · rcases hx E h9 hx9 with rfl | rfl
    · refine VX.catch1 hG hF ht ⟨0, 9, 12, 21⟩ _ rfl (by decide) (by decide) tw_422 twc_I (fun q => ?_)
      show V G F _ _ _ 12 [some (.ref a), some (.int p0), some (.ref c), none] [.ref q] h9
      refine V.run hF [(.astore_n 3, 1, .null), (.iconst 1, 1, .int 1)] (pc' := 14) (L' := [some (.ref a), some (.int p0), some (.ref c), some (.ref q)]) (st' := [.int 1]) (by decide +kernel) rfl ?_
      exact V.reti hF (by decide +kernel) (Or.inr ⟨_, _, hx9, (Or.inl ⟨rfl, rfl⟩), rfl⟩)
    · refine VX.catch2 hG hF ht ⟨0, 9, 12, 21⟩ ⟨0, 9, 15, 15⟩ _ rfl (by decide) tw_422 hN.2.1 (by decide) (by decide) tw_379 twc_S (fun q => ?_)
      show V G F _ _ _ 15 [some (.ref a), some (.int p0), some (.ref c), none] [.ref q] h9
      refine V.run hF [(.astore_n 3, 1, .null), (.iconst 2, 1, .int 2)] (pc' := 17) (L' := [some (.ref a), some (.int p0), some (.ref c), some (.ref q)]) (st' := [.int 2]) (by decide +kernel) rfl ?_
      exact V.reti hF (by decide +kernel) (Or.inr ⟨_, _, hx9, (Or.inr ⟨rfl, rfl⟩), rfl⟩)
set_option maxHeartbeats 4000000 in
theorem w_turn (hG : GOk G) (hN : GNc G) {p0 : Int32} (hM : Ct G yX3_turn (.code yX3_turn cX3_turn 2 (some .boolean)) 7 102 1 6 [.ref a, .int p0] h po px) (hA : h a = some (.inr (3, vs))) (hv : ∀ v h2, po v h2 → ∃ z o, v = some (.int z) ∧ h2 c = some (out1 o)) (hx : ∀ E h2, px E h2 → E = eI) :
    Ct G yL_turn (.codeWith yL_turn cL_turn 4 (some .int) [(0, 16, 19, 21)]) 8 123 1 6 [.ref a, .int p0, .ref c] h (wI φ1 po px c cdI) pxN := by
  refine Ct.ofH (by decide +kernel) (Nat.le_of_ble_eq_true rfl) fun F hF ht hRm => ?_
  refine V.run hF [(.aload_n 2, 1, .null), (.iconst 0, 1, .int (nI 0)), (.aload_n 0, 1, .null), (.iload_n 1, 1, .null)] (pc' := 4) (L' := [some (.ref a), some (.int p0), some (.ref c), none]) (st' := [.int p0, .ref a, .int (nI 0), .ref c]) (by decide +kernel) rfl ?_
  refine V.callV (As := [.int p0]) (st := [.int (nI 0), .ref c]) hG hF k_RL_34 (by decide +kernel) hM hA rfl rfl ⟨by rw [hRm]; decide, by rw [hRm]; decide⟩ (Nat.le_of_ble_eq_true rfl) rfl (fun v h2 hp => ?_) (fun E h9 hx9 => ?_)
  · obtain ⟨y, o, rfl, hc2⟩ := hv v h2 hp
    show V G F _ _ _ 7 [some (.ref a), some (.int p0), some (.ref c), none] [.int y, .int (nI 0), .ref c] h2
    refine V.if_eq hF (off := 7) (tgt := 14) (by decide +kernel) (by decide) (fun c1 => ?_) (fun c1 => ?_)
    · skip
      refine V.run hF [(.lconst 0, 1, .long 0)] (pc' := 15) (L' := [some (.ref a), some (.int p0), some (.ref c), none]) (st' := [.long 0, .int (nI 0), .ref c]) (by decide +kernel) rfl ?_
      refine V.lastN (j := 0) hG hF (by decide +kernel) hc2 (by omega) (by decide) ?_
      obtain ⟨h_2, gh2⟩ : ∃ z : Hp, z = hset h2 c (.inl (2, 1, .inr (.inl (vp_updL o 0 0)))) := ⟨_, rfl⟩
      refine V.hp gh2 ?_
      have gk2 : ∀ q : Nat, q ≠ c → h_2 q = h2 q := fun q hq => by rw [gh2]; exact hset_ne hq
      have gs2 : h_2 c = some (.inl (2, 1, .inr (.inl (vp_updL o 0 0)))) := by rw [gh2]; exact hset_eq
      refine V.run hF [(.goto 6, 3, .null), (.iconst 0, 1, .int 0)] (pc' := 23) (L' := [some (.ref a), some (.int p0), some (.ref c), none]) (st' := [.int 0]) (by decide +kernel) rfl ?_
      exact V.reti hF (by decide +kernel) (Or.inl ⟨y, h2, o, hp, hc2, rfl, by rw [show φ1 y = 0 from if_pos c1]; assumption⟩)
    · skip
      refine V.run hF [(.lconst 1, 1, .long 1), (.goto 4, 3, .null)] (pc' := 15) (L' := [some (.ref a), some (.int p0), some (.ref c), none]) (st' := [.long 1, .int (nI 0), .ref c]) (by decide +kernel) rfl ?_
      refine V.lastN (j := 0) hG hF (by decide +kernel) hc2 (by omega) (by decide) ?_
      obtain ⟨h_3, gh3⟩ : ∃ z : Hp, z = hset h2 c (.inl (2, 1, .inr (.inl (vp_updL o 0 1)))) := ⟨_, rfl⟩
      refine V.hp gh3 ?_
      have gk3 : ∀ q : Nat, q ≠ c → h_3 q = h2 q := fun q hq => by rw [gh3]; exact hset_ne hq
      have gs3 : h_3 c = some (.inl (2, 1, .inr (.inl (vp_updL o 0 1)))) := by rw [gh3]; exact hset_eq
      refine V.run hF [(.goto 6, 3, .null), (.iconst 0, 1, .int 0)] (pc' := 23) (L' := [some (.ref a), some (.int p0), some (.ref c), none]) (st' := [.int 0]) (by decide +kernel) rfl ?_
      exact V.reti hF (by decide +kernel) (Or.inl ⟨y, h2, o, hp, hc2, rfl, by rw [show φ1 y = 1 from if_neg c1]; assumption⟩)
  · obtain rfl := hx E h9 hx9
    refine VX.catch1 hG hF ht ⟨0, 16, 19, 21⟩ _ rfl (by decide) (by decide) tw_422 twc_I (fun q => ?_)
    show V G F _ _ _ 19 [some (.ref a), some (.int p0), some (.ref c), none] [.ref q] h9
    refine V.run hF [(.astore_n 3, 1, .null), (.iconst 1, 1, .int 1)] (pc' := 21) (L' := [some (.ref a), some (.int p0), some (.ref c), some (.ref q)]) (st' := [.int 1]) (by decide +kernel) rfl ?_
    exact V.reti hF (by decide +kernel) (Or.inr ⟨_, _, hx9, ⟨rfl, rfl⟩, rfl⟩)
set_option maxHeartbeats 4000000 in
theorem w_carry (hG : GOk G) (hN : GNc G) {p0 : Int32} (hM : Ct G yX3_carry (.code yX3_carry cX3_carry 3 (some .boolean)) 7 104 2 12 [.ref a, .int p0] h po px) (hA : h a = some (.inr (3, vs))) (hv : ∀ v h2, po v h2 → ∃ z o, v = some (.int z) ∧ h2 c = some (out1 o)) (hx : ∀ E h2, px E h2 → E = eI) :
    Ct G yL_carry (.codeWith yL_carry cL_carry 4 (some .int) [(0, 16, 19, 21)]) 8 126 2 12 [.ref a, .int p0, .ref c] h (wI φ1 po px c cdI) pxN := by
  refine Ct.ofH (by decide +kernel) (Nat.le_of_ble_eq_true rfl) fun F hF ht hRm => ?_
  refine V.run hF [(.aload_n 2, 1, .null), (.iconst 0, 1, .int (nI 0)), (.aload_n 0, 1, .null), (.iload_n 1, 1, .null)] (pc' := 4) (L' := [some (.ref a), some (.int p0), some (.ref c), none]) (st' := [.int p0, .ref a, .int (nI 0), .ref c]) (by decide +kernel) rfl ?_
  refine V.callV (As := [.int p0]) (st := [.int (nI 0), .ref c]) hG hF k_RL_38 (by decide +kernel) hM hA rfl rfl ⟨by rw [hRm]; decide, by rw [hRm]; decide⟩ (Nat.le_of_ble_eq_true rfl) rfl (fun v h2 hp => ?_) (fun E h9 hx9 => ?_)
  · obtain ⟨y, o, rfl, hc2⟩ := hv v h2 hp
    show V G F _ _ _ 7 [some (.ref a), some (.int p0), some (.ref c), none] [.int y, .int (nI 0), .ref c] h2
    refine V.if_eq hF (off := 7) (tgt := 14) (by decide +kernel) (by decide) (fun c1 => ?_) (fun c1 => ?_)
    · skip
      refine V.run hF [(.lconst 0, 1, .long 0)] (pc' := 15) (L' := [some (.ref a), some (.int p0), some (.ref c), none]) (st' := [.long 0, .int (nI 0), .ref c]) (by decide +kernel) rfl ?_
      refine V.lastN (j := 0) hG hF (by decide +kernel) hc2 (by omega) (by decide) ?_
      obtain ⟨h_2, gh2⟩ : ∃ z : Hp, z = hset h2 c (.inl (2, 1, .inr (.inl (vp_updL o 0 0)))) := ⟨_, rfl⟩
      refine V.hp gh2 ?_
      have gk2 : ∀ q : Nat, q ≠ c → h_2 q = h2 q := fun q hq => by rw [gh2]; exact hset_ne hq
      have gs2 : h_2 c = some (.inl (2, 1, .inr (.inl (vp_updL o 0 0)))) := by rw [gh2]; exact hset_eq
      refine V.run hF [(.goto 6, 3, .null), (.iconst 0, 1, .int 0)] (pc' := 23) (L' := [some (.ref a), some (.int p0), some (.ref c), none]) (st' := [.int 0]) (by decide +kernel) rfl ?_
      exact V.reti hF (by decide +kernel) (Or.inl ⟨y, h2, o, hp, hc2, rfl, by rw [show φ1 y = 0 from if_pos c1]; assumption⟩)
    · skip
      refine V.run hF [(.lconst 1, 1, .long 1), (.goto 4, 3, .null)] (pc' := 15) (L' := [some (.ref a), some (.int p0), some (.ref c), none]) (st' := [.long 1, .int (nI 0), .ref c]) (by decide +kernel) rfl ?_
      refine V.lastN (j := 0) hG hF (by decide +kernel) hc2 (by omega) (by decide) ?_
      obtain ⟨h_3, gh3⟩ : ∃ z : Hp, z = hset h2 c (.inl (2, 1, .inr (.inl (vp_updL o 0 1)))) := ⟨_, rfl⟩
      refine V.hp gh3 ?_
      have gk3 : ∀ q : Nat, q ≠ c → h_3 q = h2 q := fun q hq => by rw [gh3]; exact hset_ne hq
      have gs3 : h_3 c = some (.inl (2, 1, .inr (.inl (vp_updL o 0 1)))) := by rw [gh3]; exact hset_eq
      refine V.run hF [(.goto 6, 3, .null), (.iconst 0, 1, .int 0)] (pc' := 23) (L' := [some (.ref a), some (.int p0), some (.ref c), none]) (st' := [.int 0]) (by decide +kernel) rfl ?_
      exact V.reti hF (by decide +kernel) (Or.inl ⟨y, h2, o, hp, hc2, rfl, by rw [show φ1 y = 1 from if_neg c1]; assumption⟩)
  · obtain rfl := hx E h9 hx9
    refine VX.catch1 hG hF ht ⟨0, 16, 19, 21⟩ _ rfl (by decide) (by decide) tw_422 twc_I (fun q => ?_)
    show V G F _ _ _ 19 [some (.ref a), some (.int p0), some (.ref c), none] [.ref q] h9
    refine V.run hF [(.astore_n 3, 1, .null), (.iconst 1, 1, .int 1)] (pc' := 21) (L' := [some (.ref a), some (.int p0), some (.ref c), some (.ref q)]) (st' := [.int 1]) (by decide +kernel) rfl ?_
    exact V.reti hF (by decide +kernel) (Or.inr ⟨_, _, hx9, ⟨rfl, rfl⟩, rfl⟩)
set_option maxHeartbeats 4000000 in
theorem w_setHeat (hG : GOk G) (hN : GNc G) {p0 p1 : Int32} (hM : Ct G yX3_setHeat (.code yX3_setHeat cX3_setHeat 4 (some .int)) 6 82 1 6 [.ref a, .int p0, .int p1] h po px) (hA : h a = some (.inr (3, vs))) (hv : ∀ v h2, po v h2 → ∃ z o, v = some (.int z) ∧ h2 c = some (out1 o)) (hx : ∀ E h2, px E h2 → E = eI ∨ E = eA) :
    Ct G yL_setHeat (.codeWith yL_setHeat cL_setHeat 5 (some .int) [(0, 10, 13, 21), (0, 10, 17, 13)]) 7 105 1 6 [.ref a, .int p0, .int p1, .ref c] h (wI Int32.toInt64 po px c cdIA) pxN := by
  refine Ct.ofH (by decide +kernel) (Nat.le_of_ble_eq_true rfl) fun F hF ht hRm => ?_
  refine V.run hF [(.aload_n 3, 1, .null), (.iconst 0, 1, .int (nI 0)), (.aload_n 0, 1, .null), (.iload_n 1, 1, .null), (.iload_n 2, 1, .null)] (pc' := 5) (L' := [some (.ref a), some (.int p0), some (.int p1), some (.ref c), none]) (st' := [.int p1, .int p0, .ref a, .int (nI 0), .ref c]) (by decide +kernel) rfl ?_
  refine V.callV (As := [.int p0, .int p1]) (st := [.int (nI 0), .ref c]) hG hF k_RL_41 (by decide +kernel) hM hA rfl rfl ⟨by rw [hRm]; decide, by rw [hRm]; decide⟩ (Nat.le_of_ble_eq_true rfl) rfl (fun v h2 hp => ?_) (fun E h9 hx9 => ?_)
  · obtain ⟨y, o, rfl, hc2⟩ := hv v h2 hp
    show V G F _ _ _ 8 [some (.ref a), some (.int p0), some (.int p1), some (.ref c), none] [.int y, .int (nI 0), .ref c] h2
    refine V.run hF [(.i2l, 1, .null)] (pc' := 9) (L' := [some (.ref a), some (.int p0), some (.int p1), some (.ref c), none]) (st' := [.long (Int32.toInt64 y), .int (nI 0), .ref c]) (by decide +kernel) rfl ?_
    refine V.lastN (j := 0) hG hF (by decide +kernel) hc2 (by omega) (by decide) ?_
    obtain ⟨h_2, gh2⟩ : ∃ z : Hp, z = hset h2 c (.inl (2, 1, .inr (.inl (vp_updL o 0 (Int32.toInt64 y))))) := ⟨_, rfl⟩
    refine V.hp gh2 ?_
    have gk2 : ∀ q : Nat, q ≠ c → h_2 q = h2 q := fun q hq => by rw [gh2]; exact hset_ne hq
    have gs2 : h_2 c = some (.inl (2, 1, .inr (.inl (vp_updL o 0 (Int32.toInt64 y))))) := by rw [gh2]; exact hset_eq
    refine V.run hF [(.goto 11, 3, .null), (.iconst 0, 1, .int 0)] (pc' := 22) (L' := [some (.ref a), some (.int p0), some (.int p1), some (.ref c), none]) (st' := [.int 0]) (by decide +kernel) rfl ?_
    exact V.reti hF (by decide +kernel) (Or.inl ⟨y, h2, o, hp, hc2, rfl, by assumption⟩)
  · rcases hx E h9 hx9 with rfl | rfl
    · refine VX.catch1 hG hF ht ⟨0, 10, 13, 21⟩ _ rfl (by decide) (by decide) tw_422 twc_I (fun q => ?_)
      show V G F _ _ _ 13 [some (.ref a), some (.int p0), some (.int p1), some (.ref c), none] [.ref q] h9
      refine V.run hF [(.astore 4, 2, .null), (.iconst 1, 1, .int 1)] (pc' := 16) (L' := [some (.ref a), some (.int p0), some (.int p1), some (.ref c), some (.ref q)]) (st' := [.int 1]) (by decide +kernel) rfl ?_
      exact V.reti hF (by decide +kernel) (Or.inr ⟨_, _, hx9, (Or.inl ⟨rfl, rfl⟩), rfl⟩)
    · refine VX.catch2 hG hF ht ⟨0, 10, 13, 21⟩ ⟨0, 10, 17, 13⟩ _ rfl (by decide) tw_422 hN.1 (by decide) (by decide) tw_378 twc_A (fun q => ?_)
      show V G F _ _ _ 17 [some (.ref a), some (.int p0), some (.int p1), some (.ref c), none] [.ref q] h9
      refine V.run hF [(.astore 4, 2, .null), (.iconst 2, 1, .int 2)] (pc' := 20) (L' := [some (.ref a), some (.int p0), some (.int p1), some (.ref c), some (.ref q)]) (st' := [.int 2]) (by decide +kernel) rfl ?_
      exact V.reti hF (by decide +kernel) (Or.inr ⟨_, _, hx9, (Or.inr ⟨rfl, rfl⟩), rfl⟩)
set_option maxHeartbeats 4000000 in
theorem w_pass (hG : GOk G) (hN : GNc G) {p0 : Int32} (hM : Ct G yX3_pass (.code yX3_pass cX3_pass 4 (some .int)) 7 102 1 6 [.ref a, .int p0] h po px) (hA : h a = some (.inr (3, vs))) (hv : ∀ v h2, po v h2 → ∃ z o, v = some (.int z) ∧ h2 c = some (out1 o)) (hx : ∀ E h2, px E h2 → E = eA) :
    Ct G yL_pass (.codeWith yL_pass cL_pass 4 (some .int) [(0, 9, 12, 13)]) 8 125 1 6 [.ref a, .int p0, .ref c] h (wI Int32.toInt64 po px c cdA) pxN := by
  refine Ct.ofH (by decide +kernel) (Nat.le_of_ble_eq_true rfl) fun F hF ht hRm => ?_
  refine V.run hF [(.aload_n 2, 1, .null), (.iconst 0, 1, .int (nI 0)), (.aload_n 0, 1, .null), (.iload_n 1, 1, .null)] (pc' := 4) (L' := [some (.ref a), some (.int p0), some (.ref c), none]) (st' := [.int p0, .ref a, .int (nI 0), .ref c]) (by decide +kernel) rfl ?_
  refine V.callV (As := [.int p0]) (st := [.int (nI 0), .ref c]) hG hF k_RL_44 (by decide +kernel) hM hA rfl rfl ⟨by rw [hRm]; decide, by rw [hRm]; decide⟩ (Nat.le_of_ble_eq_true rfl) rfl (fun v h2 hp => ?_) (fun E h9 hx9 => ?_)
  · obtain ⟨y, o, rfl, hc2⟩ := hv v h2 hp
    show V G F _ _ _ 7 [some (.ref a), some (.int p0), some (.ref c), none] [.int y, .int (nI 0), .ref c] h2
    refine V.run hF [(.i2l, 1, .null)] (pc' := 8) (L' := [some (.ref a), some (.int p0), some (.ref c), none]) (st' := [.long (Int32.toInt64 y), .int (nI 0), .ref c]) (by decide +kernel) rfl ?_
    refine V.lastN (j := 0) hG hF (by decide +kernel) hc2 (by omega) (by decide) ?_
    obtain ⟨h_2, gh2⟩ : ∃ z : Hp, z = hset h2 c (.inl (2, 1, .inr (.inl (vp_updL o 0 (Int32.toInt64 y))))) := ⟨_, rfl⟩
    refine V.hp gh2 ?_
    have gk2 : ∀ q : Nat, q ≠ c → h_2 q = h2 q := fun q hq => by rw [gh2]; exact hset_ne hq
    have gs2 : h_2 c = some (.inl (2, 1, .inr (.inl (vp_updL o 0 (Int32.toInt64 y))))) := by rw [gh2]; exact hset_eq
    refine V.run hF [(.goto 6, 3, .null), (.iconst 0, 1, .int 0)] (pc' := 16) (L' := [some (.ref a), some (.int p0), some (.ref c), none]) (st' := [.int 0]) (by decide +kernel) rfl ?_
    exact V.reti hF (by decide +kernel) (Or.inl ⟨y, h2, o, hp, hc2, rfl, by assumption⟩)
  · obtain rfl := hx E h9 hx9
    refine VX.catch1 hG hF ht ⟨0, 9, 12, 13⟩ _ rfl (by decide) (by decide) tw_378 twc_A (fun q => ?_)
    show V G F _ _ _ 12 [some (.ref a), some (.int p0), some (.ref c), none] [.ref q] h9
    refine V.run hF [(.astore_n 3, 1, .null), (.iconst 1, 1, .int 1)] (pc' := 14) (L' := [some (.ref a), some (.int p0), some (.ref c), some (.ref q)]) (st' := [.int 1]) (by decide +kernel) rfl ?_
    exact V.reti hF (by decide +kernel) (Or.inr ⟨_, _, hx9, ⟨rfl, rfl⟩, rfl⟩)
set_option maxHeartbeats 4000000 in
theorem w_isThere (hG : GOk G) (hN : GNc G) {p0 : Int32} (hM : Ct G yX3_isThere (.code yX3_isThere cX3_isThere 2 (some .boolean)) 7 102 1 6 [.ref a, .int p0] h po px) (hA : h a = some (.inr (3, vs))) (hv : ∀ v h2, po v h2 → ∃ z o, v = some (.int z) ∧ h2 c = some (out1 o)) (hx : ∀ E h2, px E h2 → E = eI) :
    Ct G yL_isThere (.codeWith yL_isThere cL_isThere 4 (some .int) [(0, 16, 19, 21)]) 8 123 1 6 [.ref a, .int p0, .ref c] h (wI φ1 po px c cdI) pxN := by
  refine Ct.ofH (by decide +kernel) (Nat.le_of_ble_eq_true rfl) fun F hF ht hRm => ?_
  refine V.run hF [(.aload_n 2, 1, .null), (.iconst 0, 1, .int (nI 0)), (.aload_n 0, 1, .null), (.iload_n 1, 1, .null)] (pc' := 4) (L' := [some (.ref a), some (.int p0), some (.ref c), none]) (st' := [.int p0, .ref a, .int (nI 0), .ref c]) (by decide +kernel) rfl ?_
  refine V.callV (As := [.int p0]) (st := [.int (nI 0), .ref c]) hG hF k_RL_47 (by decide +kernel) hM hA rfl rfl ⟨by rw [hRm]; decide, by rw [hRm]; decide⟩ (Nat.le_of_ble_eq_true rfl) rfl (fun v h2 hp => ?_) (fun E h9 hx9 => ?_)
  · obtain ⟨y, o, rfl, hc2⟩ := hv v h2 hp
    show V G F _ _ _ 7 [some (.ref a), some (.int p0), some (.ref c), none] [.int y, .int (nI 0), .ref c] h2
    refine V.if_eq hF (off := 7) (tgt := 14) (by decide +kernel) (by decide) (fun c1 => ?_) (fun c1 => ?_)
    · skip
      refine V.run hF [(.lconst 0, 1, .long 0)] (pc' := 15) (L' := [some (.ref a), some (.int p0), some (.ref c), none]) (st' := [.long 0, .int (nI 0), .ref c]) (by decide +kernel) rfl ?_
      refine V.lastN (j := 0) hG hF (by decide +kernel) hc2 (by omega) (by decide) ?_
      obtain ⟨h_2, gh2⟩ : ∃ z : Hp, z = hset h2 c (.inl (2, 1, .inr (.inl (vp_updL o 0 0)))) := ⟨_, rfl⟩
      refine V.hp gh2 ?_
      have gk2 : ∀ q : Nat, q ≠ c → h_2 q = h2 q := fun q hq => by rw [gh2]; exact hset_ne hq
      have gs2 : h_2 c = some (.inl (2, 1, .inr (.inl (vp_updL o 0 0)))) := by rw [gh2]; exact hset_eq
      refine V.run hF [(.goto 6, 3, .null), (.iconst 0, 1, .int 0)] (pc' := 23) (L' := [some (.ref a), some (.int p0), some (.ref c), none]) (st' := [.int 0]) (by decide +kernel) rfl ?_
      exact V.reti hF (by decide +kernel) (Or.inl ⟨y, h2, o, hp, hc2, rfl, by rw [show φ1 y = 0 from if_pos c1]; assumption⟩)
    · skip
      refine V.run hF [(.lconst 1, 1, .long 1), (.goto 4, 3, .null)] (pc' := 15) (L' := [some (.ref a), some (.int p0), some (.ref c), none]) (st' := [.long 1, .int (nI 0), .ref c]) (by decide +kernel) rfl ?_
      refine V.lastN (j := 0) hG hF (by decide +kernel) hc2 (by omega) (by decide) ?_
      obtain ⟨h_3, gh3⟩ : ∃ z : Hp, z = hset h2 c (.inl (2, 1, .inr (.inl (vp_updL o 0 1)))) := ⟨_, rfl⟩
      refine V.hp gh3 ?_
      have gk3 : ∀ q : Nat, q ≠ c → h_3 q = h2 q := fun q hq => by rw [gh3]; exact hset_ne hq
      have gs3 : h_3 c = some (.inl (2, 1, .inr (.inl (vp_updL o 0 1)))) := by rw [gh3]; exact hset_eq
      refine V.run hF [(.goto 6, 3, .null), (.iconst 0, 1, .int 0)] (pc' := 23) (L' := [some (.ref a), some (.int p0), some (.ref c), none]) (st' := [.int 0]) (by decide +kernel) rfl ?_
      exact V.reti hF (by decide +kernel) (Or.inl ⟨y, h2, o, hp, hc2, rfl, by rw [show φ1 y = 1 from if_neg c1]; assumption⟩)
  · obtain rfl := hx E h9 hx9
    refine VX.catch1 hG hF ht ⟨0, 16, 19, 21⟩ _ rfl (by decide) (by decide) tw_422 twc_I (fun q => ?_)
    show V G F _ _ _ 19 [some (.ref a), some (.int p0), some (.ref c), none] [.ref q] h9
    refine V.run hF [(.astore_n 3, 1, .null), (.iconst 1, 1, .int 1)] (pc' := 21) (L' := [some (.ref a), some (.int p0), some (.ref c), some (.ref q)]) (st' := [.int 1]) (by decide +kernel) rfl ?_
    exact V.reti hF (by decide +kernel) (Or.inr ⟨_, _, hx9, ⟨rfl, rfl⟩, rfl⟩)
set_option maxHeartbeats 4000000 in
theorem w_linesOf (hG : GOk G) (hN : GNc G) {p0 : Int32} (hM : Ct G yX3_linesOf (.code yX3_linesOf cX3_linesOf 2 (some .int)) 7 104 2 12 [.ref a, .int p0] h po px) (hA : h a = some (.inr (3, vs))) (hv : ∀ v h2, po v h2 → ∃ z o, v = some (.int z) ∧ h2 c = some (out1 o)) (hx : ∀ E h2, px E h2 → E = eI) :
    Ct G yL_linesOf (.codeWith yL_linesOf cL_linesOf 4 (some .int) [(0, 9, 12, 21)]) 8 125 2 12 [.ref a, .int p0, .ref c] h (wI Int32.toInt64 po px c cdI) pxN := by
  refine Ct.ofH (by decide +kernel) (Nat.le_of_ble_eq_true rfl) fun F hF ht hRm => ?_
  refine V.run hF [(.aload_n 2, 1, .null), (.iconst 0, 1, .int (nI 0)), (.aload_n 0, 1, .null), (.iload_n 1, 1, .null)] (pc' := 4) (L' := [some (.ref a), some (.int p0), some (.ref c), none]) (st' := [.int p0, .ref a, .int (nI 0), .ref c]) (by decide +kernel) rfl ?_
  refine V.callV (As := [.int p0]) (st := [.int (nI 0), .ref c]) hG hF k_RL_50 (by decide +kernel) hM hA rfl rfl ⟨by rw [hRm]; decide, by rw [hRm]; decide⟩ (Nat.le_of_ble_eq_true rfl) rfl (fun v h2 hp => ?_) (fun E h9 hx9 => ?_)
  · obtain ⟨y, o, rfl, hc2⟩ := hv v h2 hp
    show V G F _ _ _ 7 [some (.ref a), some (.int p0), some (.ref c), none] [.int y, .int (nI 0), .ref c] h2
    refine V.run hF [(.i2l, 1, .null)] (pc' := 8) (L' := [some (.ref a), some (.int p0), some (.ref c), none]) (st' := [.long (Int32.toInt64 y), .int (nI 0), .ref c]) (by decide +kernel) rfl ?_
    refine V.lastN (j := 0) hG hF (by decide +kernel) hc2 (by omega) (by decide) ?_
    obtain ⟨h_2, gh2⟩ : ∃ z : Hp, z = hset h2 c (.inl (2, 1, .inr (.inl (vp_updL o 0 (Int32.toInt64 y))))) := ⟨_, rfl⟩
    refine V.hp gh2 ?_
    have gk2 : ∀ q : Nat, q ≠ c → h_2 q = h2 q := fun q hq => by rw [gh2]; exact hset_ne hq
    have gs2 : h_2 c = some (.inl (2, 1, .inr (.inl (vp_updL o 0 (Int32.toInt64 y))))) := by rw [gh2]; exact hset_eq
    refine V.run hF [(.goto 6, 3, .null), (.iconst 0, 1, .int 0)] (pc' := 16) (L' := [some (.ref a), some (.int p0), some (.ref c), none]) (st' := [.int 0]) (by decide +kernel) rfl ?_
    exact V.reti hF (by decide +kernel) (Or.inl ⟨y, h2, o, hp, hc2, rfl, by assumption⟩)
  · obtain rfl := hx E h9 hx9
    refine VX.catch1 hG hF ht ⟨0, 9, 12, 21⟩ _ rfl (by decide) (by decide) tw_422 twc_I (fun q => ?_)
    show V G F _ _ _ 12 [some (.ref a), some (.int p0), some (.ref c), none] [.ref q] h9
    refine V.run hF [(.astore_n 3, 1, .null), (.iconst 1, 1, .int 1)] (pc' := 14) (L' := [some (.ref a), some (.int p0), some (.ref c), some (.ref q)]) (st' := [.int 1]) (by decide +kernel) rfl ?_
    exact V.reti hF (by decide +kernel) (Or.inr ⟨_, _, hx9, ⟨rfl, rfl⟩, rfl⟩)
set_option maxHeartbeats 4000000 in
theorem w_isInCellar (hG : GOk G) (hN : GNc G) {p0 : Int32} (hM : Ct G yX3_isInCellar (.code yX3_isInCellar cX3_isInCellar 2 (some .boolean)) 7 104 2 12 [.ref a, .int p0] h po px) (hA : h a = some (.inr (3, vs))) (hv : ∀ v h2, po v h2 → ∃ z o, v = some (.int z) ∧ h2 c = some (out1 o)) (hx : ∀ E h2, px E h2 → E = eI) :
    Ct G yL_isInCellar (.codeWith yL_isInCellar cL_isInCellar 4 (some .int) [(0, 16, 19, 21)]) 8 125 2 12 [.ref a, .int p0, .ref c] h (wI φ1 po px c cdI) pxN := by
  refine Ct.ofH (by decide +kernel) (Nat.le_of_ble_eq_true rfl) fun F hF ht hRm => ?_
  refine V.run hF [(.aload_n 2, 1, .null), (.iconst 0, 1, .int (nI 0)), (.aload_n 0, 1, .null), (.iload_n 1, 1, .null)] (pc' := 4) (L' := [some (.ref a), some (.int p0), some (.ref c), none]) (st' := [.int p0, .ref a, .int (nI 0), .ref c]) (by decide +kernel) rfl ?_
  refine V.callV (As := [.int p0]) (st := [.int (nI 0), .ref c]) hG hF k_RL_53 (by decide +kernel) hM hA rfl rfl ⟨by rw [hRm]; decide, by rw [hRm]; decide⟩ (Nat.le_of_ble_eq_true rfl) rfl (fun v h2 hp => ?_) (fun E h9 hx9 => ?_)
  · obtain ⟨y, o, rfl, hc2⟩ := hv v h2 hp
    show V G F _ _ _ 7 [some (.ref a), some (.int p0), some (.ref c), none] [.int y, .int (nI 0), .ref c] h2
    refine V.if_eq hF (off := 7) (tgt := 14) (by decide +kernel) (by decide) (fun c1 => ?_) (fun c1 => ?_)
    · skip
      refine V.run hF [(.lconst 0, 1, .long 0)] (pc' := 15) (L' := [some (.ref a), some (.int p0), some (.ref c), none]) (st' := [.long 0, .int (nI 0), .ref c]) (by decide +kernel) rfl ?_
      refine V.lastN (j := 0) hG hF (by decide +kernel) hc2 (by omega) (by decide) ?_
      obtain ⟨h_2, gh2⟩ : ∃ z : Hp, z = hset h2 c (.inl (2, 1, .inr (.inl (vp_updL o 0 0)))) := ⟨_, rfl⟩
      refine V.hp gh2 ?_
      have gk2 : ∀ q : Nat, q ≠ c → h_2 q = h2 q := fun q hq => by rw [gh2]; exact hset_ne hq
      have gs2 : h_2 c = some (.inl (2, 1, .inr (.inl (vp_updL o 0 0)))) := by rw [gh2]; exact hset_eq
      refine V.run hF [(.goto 6, 3, .null), (.iconst 0, 1, .int 0)] (pc' := 23) (L' := [some (.ref a), some (.int p0), some (.ref c), none]) (st' := [.int 0]) (by decide +kernel) rfl ?_
      exact V.reti hF (by decide +kernel) (Or.inl ⟨y, h2, o, hp, hc2, rfl, by rw [show φ1 y = 0 from if_pos c1]; assumption⟩)
    · skip
      refine V.run hF [(.lconst 1, 1, .long 1), (.goto 4, 3, .null)] (pc' := 15) (L' := [some (.ref a), some (.int p0), some (.ref c), none]) (st' := [.long 1, .int (nI 0), .ref c]) (by decide +kernel) rfl ?_
      refine V.lastN (j := 0) hG hF (by decide +kernel) hc2 (by omega) (by decide) ?_
      obtain ⟨h_3, gh3⟩ : ∃ z : Hp, z = hset h2 c (.inl (2, 1, .inr (.inl (vp_updL o 0 1)))) := ⟨_, rfl⟩
      refine V.hp gh3 ?_
      have gk3 : ∀ q : Nat, q ≠ c → h_3 q = h2 q := fun q hq => by rw [gh3]; exact hset_ne hq
      have gs3 : h_3 c = some (.inl (2, 1, .inr (.inl (vp_updL o 0 1)))) := by rw [gh3]; exact hset_eq
      refine V.run hF [(.goto 6, 3, .null), (.iconst 0, 1, .int 0)] (pc' := 23) (L' := [some (.ref a), some (.int p0), some (.ref c), none]) (st' := [.int 0]) (by decide +kernel) rfl ?_
      exact V.reti hF (by decide +kernel) (Or.inl ⟨y, h2, o, hp, hc2, rfl, by rw [show φ1 y = 1 from if_neg c1]; assumption⟩)
  · obtain rfl := hx E h9 hx9
    refine VX.catch1 hG hF ht ⟨0, 16, 19, 21⟩ _ rfl (by decide) (by decide) tw_422 twc_I (fun q => ?_)
    show V G F _ _ _ 19 [some (.ref a), some (.int p0), some (.ref c), none] [.ref q] h9
    refine V.run hF [(.astore_n 3, 1, .null), (.iconst 1, 1, .int 1)] (pc' := 21) (L' := [some (.ref a), some (.int p0), some (.ref c), some (.ref q)]) (st' := [.int 1]) (by decide +kernel) rfl ?_
    exact V.reti hF (by decide +kernel) (Or.inr ⟨_, _, hx9, ⟨rfl, rfl⟩, rfl⟩)
set_option maxHeartbeats 4000000 in
theorem w_debtorOf (hG : GOk G) (hN : GNc G) {p0 p1 : Int32} (hM : Ct G yX3_debtorOf (.code yX3_debtorOf cX3_debtorOf 3 (some .int)) 8 127 3 18 [.ref a, .int p0, .int p1] h po px) (hA : h a = some (.inr (3, vs))) (hv : ∀ v h2, po v h2 → ∃ z o, v = some (.int z) ∧ h2 c = some (out1 o)) (hx : ∀ E h2, px E h2 → E = eI) :
    Ct G yL_debtorOf (.codeWith yL_debtorOf cL_debtorOf 5 (some .int) [(0, 10, 13, 21)]) 9 149 3 18 [.ref a, .int p0, .int p1, .ref c] h (wI Int32.toInt64 po px c cdI) pxN := by
  refine Ct.ofH (by decide +kernel) (Nat.le_of_ble_eq_true rfl) fun F hF ht hRm => ?_
  refine V.run hF [(.aload_n 3, 1, .null), (.iconst 0, 1, .int (nI 0)), (.aload_n 0, 1, .null), (.iload_n 1, 1, .null), (.iload_n 2, 1, .null)] (pc' := 5) (L' := [some (.ref a), some (.int p0), some (.int p1), some (.ref c), none]) (st' := [.int p1, .int p0, .ref a, .int (nI 0), .ref c]) (by decide +kernel) rfl ?_
  refine V.callV (As := [.int p0, .int p1]) (st := [.int (nI 0), .ref c]) hG hF k_RL_56 (by decide +kernel) hM hA rfl rfl ⟨by rw [hRm]; decide, by rw [hRm]; decide⟩ (Nat.le_of_ble_eq_true rfl) rfl (fun v h2 hp => ?_) (fun E h9 hx9 => ?_)
  · obtain ⟨y, o, rfl, hc2⟩ := hv v h2 hp
    show V G F _ _ _ 8 [some (.ref a), some (.int p0), some (.int p1), some (.ref c), none] [.int y, .int (nI 0), .ref c] h2
    refine V.run hF [(.i2l, 1, .null)] (pc' := 9) (L' := [some (.ref a), some (.int p0), some (.int p1), some (.ref c), none]) (st' := [.long (Int32.toInt64 y), .int (nI 0), .ref c]) (by decide +kernel) rfl ?_
    refine V.lastN (j := 0) hG hF (by decide +kernel) hc2 (by omega) (by decide) ?_
    obtain ⟨h_2, gh2⟩ : ∃ z : Hp, z = hset h2 c (.inl (2, 1, .inr (.inl (vp_updL o 0 (Int32.toInt64 y))))) := ⟨_, rfl⟩
    refine V.hp gh2 ?_
    have gk2 : ∀ q : Nat, q ≠ c → h_2 q = h2 q := fun q hq => by rw [gh2]; exact hset_ne hq
    have gs2 : h_2 c = some (.inl (2, 1, .inr (.inl (vp_updL o 0 (Int32.toInt64 y))))) := by rw [gh2]; exact hset_eq
    refine V.run hF [(.goto 7, 3, .null), (.iconst 0, 1, .int 0)] (pc' := 18) (L' := [some (.ref a), some (.int p0), some (.int p1), some (.ref c), none]) (st' := [.int 0]) (by decide +kernel) rfl ?_
    exact V.reti hF (by decide +kernel) (Or.inl ⟨y, h2, o, hp, hc2, rfl, by assumption⟩)
  · obtain rfl := hx E h9 hx9
    refine VX.catch1 hG hF ht ⟨0, 10, 13, 21⟩ _ rfl (by decide) (by decide) tw_422 twc_I (fun q => ?_)
    show V G F _ _ _ 13 [some (.ref a), some (.int p0), some (.int p1), some (.ref c), none] [.ref q] h9
    refine V.run hF [(.astore 4, 2, .null), (.iconst 1, 1, .int 1)] (pc' := 16) (L' := [some (.ref a), some (.int p0), some (.int p1), some (.ref c), some (.ref q)]) (st' := [.int 1]) (by decide +kernel) rfl ?_
    exact V.reti hF (by decide +kernel) (Or.inr ⟨_, _, hx9, ⟨rfl, rfl⟩, rfl⟩)
set_option maxHeartbeats 4000000 in
theorem w_creditorOf (hG : GOk G) (hN : GNc G) {p0 p1 : Int32} (hM : Ct G yX3_creditorOf (.code yX3_creditorOf cX3_creditorOf 3 (some .int)) 8 127 3 18 [.ref a, .int p0, .int p1] h po px) (hA : h a = some (.inr (3, vs))) (hv : ∀ v h2, po v h2 → ∃ z o, v = some (.int z) ∧ h2 c = some (out1 o)) (hx : ∀ E h2, px E h2 → E = eI) :
    Ct G yL_creditorOf (.codeWith yL_creditorOf cL_creditorOf 5 (some .int) [(0, 10, 13, 21)]) 9 149 3 18 [.ref a, .int p0, .int p1, .ref c] h (wI Int32.toInt64 po px c cdI) pxN := by
  refine Ct.ofH (by decide +kernel) (Nat.le_of_ble_eq_true rfl) fun F hF ht hRm => ?_
  refine V.run hF [(.aload_n 3, 1, .null), (.iconst 0, 1, .int (nI 0)), (.aload_n 0, 1, .null), (.iload_n 1, 1, .null), (.iload_n 2, 1, .null)] (pc' := 5) (L' := [some (.ref a), some (.int p0), some (.int p1), some (.ref c), none]) (st' := [.int p1, .int p0, .ref a, .int (nI 0), .ref c]) (by decide +kernel) rfl ?_
  refine V.callV (As := [.int p0, .int p1]) (st := [.int (nI 0), .ref c]) hG hF k_RL_59 (by decide +kernel) hM hA rfl rfl ⟨by rw [hRm]; decide, by rw [hRm]; decide⟩ (Nat.le_of_ble_eq_true rfl) rfl (fun v h2 hp => ?_) (fun E h9 hx9 => ?_)
  · obtain ⟨y, o, rfl, hc2⟩ := hv v h2 hp
    show V G F _ _ _ 8 [some (.ref a), some (.int p0), some (.int p1), some (.ref c), none] [.int y, .int (nI 0), .ref c] h2
    refine V.run hF [(.i2l, 1, .null)] (pc' := 9) (L' := [some (.ref a), some (.int p0), some (.int p1), some (.ref c), none]) (st' := [.long (Int32.toInt64 y), .int (nI 0), .ref c]) (by decide +kernel) rfl ?_
    refine V.lastN (j := 0) hG hF (by decide +kernel) hc2 (by omega) (by decide) ?_
    obtain ⟨h_2, gh2⟩ : ∃ z : Hp, z = hset h2 c (.inl (2, 1, .inr (.inl (vp_updL o 0 (Int32.toInt64 y))))) := ⟨_, rfl⟩
    refine V.hp gh2 ?_
    have gk2 : ∀ q : Nat, q ≠ c → h_2 q = h2 q := fun q hq => by rw [gh2]; exact hset_ne hq
    have gs2 : h_2 c = some (.inl (2, 1, .inr (.inl (vp_updL o 0 (Int32.toInt64 y))))) := by rw [gh2]; exact hset_eq
    refine V.run hF [(.goto 7, 3, .null), (.iconst 0, 1, .int 0)] (pc' := 18) (L' := [some (.ref a), some (.int p0), some (.int p1), some (.ref c), none]) (st' := [.int 0]) (by decide +kernel) rfl ?_
    exact V.reti hF (by decide +kernel) (Or.inl ⟨y, h2, o, hp, hc2, rfl, by assumption⟩)
  · obtain rfl := hx E h9 hx9
    refine VX.catch1 hG hF ht ⟨0, 10, 13, 21⟩ _ rfl (by decide) (by decide) tw_422 twc_I (fun q => ?_)
    show V G F _ _ _ 13 [some (.ref a), some (.int p0), some (.int p1), some (.ref c), none] [.ref q] h9
    refine V.run hF [(.astore 4, 2, .null), (.iconst 1, 1, .int 1)] (pc' := 16) (L' := [some (.ref a), some (.int p0), some (.int p1), some (.ref c), some (.ref q)]) (st' := [.int 1]) (by decide +kernel) rfl ?_
    exact V.reti hF (by decide +kernel) (Or.inr ⟨_, _, hx9, ⟨rfl, rfl⟩, rfl⟩)
set_option maxHeartbeats 4000000 in
theorem w_amountOf (hG : GOk G) (hN : GNc G) {p0 p1 : Int32} (hM : Ct G yX3_amountOf (.code yX3_amountOf cX3_amountOf 3 (some .int)) 8 127 3 18 [.ref a, .int p0, .int p1] h po px) (hA : h a = some (.inr (3, vs))) (hv : ∀ v h2, po v h2 → ∃ z o, v = some (.int z) ∧ h2 c = some (out1 o)) (hx : ∀ E h2, px E h2 → E = eI) :
    Ct G yL_amountOf (.codeWith yL_amountOf cL_amountOf 5 (some .int) [(0, 10, 13, 21)]) 9 149 3 18 [.ref a, .int p0, .int p1, .ref c] h (wI Int32.toInt64 po px c cdI) pxN := by
  refine Ct.ofH (by decide +kernel) (Nat.le_of_ble_eq_true rfl) fun F hF ht hRm => ?_
  refine V.run hF [(.aload_n 3, 1, .null), (.iconst 0, 1, .int (nI 0)), (.aload_n 0, 1, .null), (.iload_n 1, 1, .null), (.iload_n 2, 1, .null)] (pc' := 5) (L' := [some (.ref a), some (.int p0), some (.int p1), some (.ref c), none]) (st' := [.int p1, .int p0, .ref a, .int (nI 0), .ref c]) (by decide +kernel) rfl ?_
  refine V.callV (As := [.int p0, .int p1]) (st := [.int (nI 0), .ref c]) hG hF k_RL_62 (by decide +kernel) hM hA rfl rfl ⟨by rw [hRm]; decide, by rw [hRm]; decide⟩ (Nat.le_of_ble_eq_true rfl) rfl (fun v h2 hp => ?_) (fun E h9 hx9 => ?_)
  · obtain ⟨y, o, rfl, hc2⟩ := hv v h2 hp
    show V G F _ _ _ 8 [some (.ref a), some (.int p0), some (.int p1), some (.ref c), none] [.int y, .int (nI 0), .ref c] h2
    refine V.run hF [(.i2l, 1, .null)] (pc' := 9) (L' := [some (.ref a), some (.int p0), some (.int p1), some (.ref c), none]) (st' := [.long (Int32.toInt64 y), .int (nI 0), .ref c]) (by decide +kernel) rfl ?_
    refine V.lastN (j := 0) hG hF (by decide +kernel) hc2 (by omega) (by decide) ?_
    obtain ⟨h_2, gh2⟩ : ∃ z : Hp, z = hset h2 c (.inl (2, 1, .inr (.inl (vp_updL o 0 (Int32.toInt64 y))))) := ⟨_, rfl⟩
    refine V.hp gh2 ?_
    have gk2 : ∀ q : Nat, q ≠ c → h_2 q = h2 q := fun q hq => by rw [gh2]; exact hset_ne hq
    have gs2 : h_2 c = some (.inl (2, 1, .inr (.inl (vp_updL o 0 (Int32.toInt64 y))))) := by rw [gh2]; exact hset_eq
    refine V.run hF [(.goto 7, 3, .null), (.iconst 0, 1, .int 0)] (pc' := 18) (L' := [some (.ref a), some (.int p0), some (.int p1), some (.ref c), none]) (st' := [.int 0]) (by decide +kernel) rfl ?_
    exact V.reti hF (by decide +kernel) (Or.inl ⟨y, h2, o, hp, hc2, rfl, by assumption⟩)
  · obtain rfl := hx E h9 hx9
    refine VX.catch1 hG hF ht ⟨0, 10, 13, 21⟩ _ rfl (by decide) (by decide) tw_422 twc_I (fun q => ?_)
    show V G F _ _ _ 13 [some (.ref a), some (.int p0), some (.int p1), some (.ref c), none] [.ref q] h9
    refine V.run hF [(.astore 4, 2, .null), (.iconst 1, 1, .int 1)] (pc' := 16) (L' := [some (.ref a), some (.int p0), some (.int p1), some (.ref c), some (.ref q)]) (st' := [.int 1]) (by decide +kernel) rfl ?_
    exact V.reti hF (by decide +kernel) (Or.inr ⟨_, _, hx9, ⟨rfl, rfl⟩, rfl⟩)
set_option maxHeartbeats 4000000 in
theorem w_isWitnessed (hG : GOk G) (hN : GNc G) {p0 p1 : Int32} (hM : Ct G yX3_isWitnessed (.code yX3_isWitnessed cX3_isWitnessed 3 (some .boolean)) 8 127 3 18 [.ref a, .int p0, .int p1] h po px) (hA : h a = some (.inr (3, vs))) (hv : ∀ v h2, po v h2 → ∃ z o, v = some (.int z) ∧ h2 c = some (out1 o)) (hx : ∀ E h2, px E h2 → E = eI) :
    Ct G yL_isWitnessed (.codeWith yL_isWitnessed cL_isWitnessed 5 (some .int) [(0, 17, 20, 21)]) 9 149 3 18 [.ref a, .int p0, .int p1, .ref c] h (wI φ1 po px c cdI) pxN := by
  refine Ct.ofH (by decide +kernel) (Nat.le_of_ble_eq_true rfl) fun F hF ht hRm => ?_
  refine V.run hF [(.aload_n 3, 1, .null), (.iconst 0, 1, .int (nI 0)), (.aload_n 0, 1, .null), (.iload_n 1, 1, .null), (.iload_n 2, 1, .null)] (pc' := 5) (L' := [some (.ref a), some (.int p0), some (.int p1), some (.ref c), none]) (st' := [.int p1, .int p0, .ref a, .int (nI 0), .ref c]) (by decide +kernel) rfl ?_
  refine V.callV (As := [.int p0, .int p1]) (st := [.int (nI 0), .ref c]) hG hF k_RL_65 (by decide +kernel) hM hA rfl rfl ⟨by rw [hRm]; decide, by rw [hRm]; decide⟩ (Nat.le_of_ble_eq_true rfl) rfl (fun v h2 hp => ?_) (fun E h9 hx9 => ?_)
  · obtain ⟨y, o, rfl, hc2⟩ := hv v h2 hp
    show V G F _ _ _ 8 [some (.ref a), some (.int p0), some (.int p1), some (.ref c), none] [.int y, .int (nI 0), .ref c] h2
    refine V.if_eq hF (off := 7) (tgt := 15) (by decide +kernel) (by decide) (fun c1 => ?_) (fun c1 => ?_)
    · skip
      refine V.run hF [(.lconst 0, 1, .long 0)] (pc' := 16) (L' := [some (.ref a), some (.int p0), some (.int p1), some (.ref c), none]) (st' := [.long 0, .int (nI 0), .ref c]) (by decide +kernel) rfl ?_
      refine V.lastN (j := 0) hG hF (by decide +kernel) hc2 (by omega) (by decide) ?_
      obtain ⟨h_2, gh2⟩ : ∃ z : Hp, z = hset h2 c (.inl (2, 1, .inr (.inl (vp_updL o 0 0)))) := ⟨_, rfl⟩
      refine V.hp gh2 ?_
      have gk2 : ∀ q : Nat, q ≠ c → h_2 q = h2 q := fun q hq => by rw [gh2]; exact hset_ne hq
      have gs2 : h_2 c = some (.inl (2, 1, .inr (.inl (vp_updL o 0 0)))) := by rw [gh2]; exact hset_eq
      refine V.run hF [(.goto 7, 3, .null), (.iconst 0, 1, .int 0)] (pc' := 25) (L' := [some (.ref a), some (.int p0), some (.int p1), some (.ref c), none]) (st' := [.int 0]) (by decide +kernel) rfl ?_
      exact V.reti hF (by decide +kernel) (Or.inl ⟨y, h2, o, hp, hc2, rfl, by rw [show φ1 y = 0 from if_pos c1]; assumption⟩)
    · skip
      refine V.run hF [(.lconst 1, 1, .long 1), (.goto 4, 3, .null)] (pc' := 16) (L' := [some (.ref a), some (.int p0), some (.int p1), some (.ref c), none]) (st' := [.long 1, .int (nI 0), .ref c]) (by decide +kernel) rfl ?_
      refine V.lastN (j := 0) hG hF (by decide +kernel) hc2 (by omega) (by decide) ?_
      obtain ⟨h_3, gh3⟩ : ∃ z : Hp, z = hset h2 c (.inl (2, 1, .inr (.inl (vp_updL o 0 1)))) := ⟨_, rfl⟩
      refine V.hp gh3 ?_
      have gk3 : ∀ q : Nat, q ≠ c → h_3 q = h2 q := fun q hq => by rw [gh3]; exact hset_ne hq
      have gs3 : h_3 c = some (.inl (2, 1, .inr (.inl (vp_updL o 0 1)))) := by rw [gh3]; exact hset_eq
      refine V.run hF [(.goto 7, 3, .null), (.iconst 0, 1, .int 0)] (pc' := 25) (L' := [some (.ref a), some (.int p0), some (.int p1), some (.ref c), none]) (st' := [.int 0]) (by decide +kernel) rfl ?_
      exact V.reti hF (by decide +kernel) (Or.inl ⟨y, h2, o, hp, hc2, rfl, by rw [show φ1 y = 1 from if_neg c1]; assumption⟩)
  · obtain rfl := hx E h9 hx9
    refine VX.catch1 hG hF ht ⟨0, 17, 20, 21⟩ _ rfl (by decide) (by decide) tw_422 twc_I (fun q => ?_)
    show V G F _ _ _ 20 [some (.ref a), some (.int p0), some (.int p1), some (.ref c), none] [.ref q] h9
    refine V.run hF [(.astore 4, 2, .null), (.iconst 1, 1, .int 1)] (pc' := 23) (L' := [some (.ref a), some (.int p0), some (.int p1), some (.ref c), some (.ref q)]) (st' := [.int 1]) (by decide +kernel) rfl ?_
    exact V.reti hF (by decide +kernel) (Or.inr ⟨_, _, hx9, ⟨rfl, rfl⟩, rfl⟩)
set_option maxHeartbeats 4000000 in
theorem w_has (hG : GOk G) (hN : GNc G) {p0 : Int32} (hM : Ct G yX3_has (.code yX3_has cX3_has 2 (some .int)) 7 102 1 6 [.ref a, .int p0] h po px) (hA : h a = some (.inr (3, vs))) (hv : ∀ v h2, po v h2 → ∃ z o, v = some (.int z) ∧ h2 c = some (out1 o)) (hx : ∀ E h2, px E h2 → E = eI) :
    Ct G yL_has (.codeWith yL_has cL_has 4 (some .int) [(0, 9, 12, 21)]) 8 123 1 6 [.ref a, .int p0, .ref c] h (wI Int32.toInt64 po px c cdI) pxN := by
  refine Ct.ofH (by decide +kernel) (Nat.le_of_ble_eq_true rfl) fun F hF ht hRm => ?_
  refine V.run hF [(.aload_n 2, 1, .null), (.iconst 0, 1, .int (nI 0)), (.aload_n 0, 1, .null), (.iload_n 1, 1, .null)] (pc' := 4) (L' := [some (.ref a), some (.int p0), some (.ref c), none]) (st' := [.int p0, .ref a, .int (nI 0), .ref c]) (by decide +kernel) rfl ?_
  refine V.callV (As := [.int p0]) (st := [.int (nI 0), .ref c]) hG hF k_RL_69 (by decide +kernel) hM hA rfl rfl ⟨by rw [hRm]; decide, by rw [hRm]; decide⟩ (Nat.le_of_ble_eq_true rfl) rfl (fun v h2 hp => ?_) (fun E h9 hx9 => ?_)
  · obtain ⟨y, o, rfl, hc2⟩ := hv v h2 hp
    show V G F _ _ _ 7 [some (.ref a), some (.int p0), some (.ref c), none] [.int y, .int (nI 0), .ref c] h2
    refine V.run hF [(.i2l, 1, .null)] (pc' := 8) (L' := [some (.ref a), some (.int p0), some (.ref c), none]) (st' := [.long (Int32.toInt64 y), .int (nI 0), .ref c]) (by decide +kernel) rfl ?_
    refine V.lastN (j := 0) hG hF (by decide +kernel) hc2 (by omega) (by decide) ?_
    obtain ⟨h_2, gh2⟩ : ∃ z : Hp, z = hset h2 c (.inl (2, 1, .inr (.inl (vp_updL o 0 (Int32.toInt64 y))))) := ⟨_, rfl⟩
    refine V.hp gh2 ?_
    have gk2 : ∀ q : Nat, q ≠ c → h_2 q = h2 q := fun q hq => by rw [gh2]; exact hset_ne hq
    have gs2 : h_2 c = some (.inl (2, 1, .inr (.inl (vp_updL o 0 (Int32.toInt64 y))))) := by rw [gh2]; exact hset_eq
    refine V.run hF [(.goto 6, 3, .null), (.iconst 0, 1, .int 0)] (pc' := 16) (L' := [some (.ref a), some (.int p0), some (.ref c), none]) (st' := [.int 0]) (by decide +kernel) rfl ?_
    exact V.reti hF (by decide +kernel) (Or.inl ⟨y, h2, o, hp, hc2, rfl, by assumption⟩)
  · obtain rfl := hx E h9 hx9
    refine VX.catch1 hG hF ht ⟨0, 9, 12, 21⟩ _ rfl (by decide) (by decide) tw_422 twc_I (fun q => ?_)
    show V G F _ _ _ 12 [some (.ref a), some (.int p0), some (.ref c), none] [.ref q] h9
    refine V.run hF [(.astore_n 3, 1, .null), (.iconst 1, 1, .int 1)] (pc' := 14) (L' := [some (.ref a), some (.int p0), some (.ref c), some (.ref q)]) (st' := [.int 1]) (by decide +kernel) rfl ?_
    exact V.reti hF (by decide +kernel) (Or.inr ⟨_, _, hx9, ⟨rfl, rfl⟩, rfl⟩)
set_option maxHeartbeats 4000000 in
theorem w_hasOn (hG : GOk G) (hN : GNc G) {p0 p1 : Int32} (hM : Ct G yX3_hasOn (.code yX3_hasOn cX3_hasOn 4 (some .int)) 7 104 2 12 [.ref a, .int p0, .int p1] h po px) (hA : h a = some (.inr (3, vs))) (hv : ∀ v h2, po v h2 → ∃ z o, v = some (.int z) ∧ h2 c = some (out1 o)) (hx : ∀ E h2, px E h2 → E = eI) :
    Ct G yL_hasOn (.codeWith yL_hasOn cL_hasOn 5 (some .int) [(0, 10, 13, 21)]) 8 127 2 12 [.ref a, .int p0, .int p1, .ref c] h (wI Int32.toInt64 po px c cdI) pxN := by
  refine Ct.ofH (by decide +kernel) (Nat.le_of_ble_eq_true rfl) fun F hF ht hRm => ?_
  refine V.run hF [(.aload_n 3, 1, .null), (.iconst 0, 1, .int (nI 0)), (.aload_n 0, 1, .null), (.iload_n 1, 1, .null), (.iload_n 2, 1, .null)] (pc' := 5) (L' := [some (.ref a), some (.int p0), some (.int p1), some (.ref c), none]) (st' := [.int p1, .int p0, .ref a, .int (nI 0), .ref c]) (by decide +kernel) rfl ?_
  refine V.callV (As := [.int p0, .int p1]) (st := [.int (nI 0), .ref c]) hG hF k_RL_72 (by decide +kernel) hM hA rfl rfl ⟨by rw [hRm]; decide, by rw [hRm]; decide⟩ (Nat.le_of_ble_eq_true rfl) rfl (fun v h2 hp => ?_) (fun E h9 hx9 => ?_)
  · obtain ⟨y, o, rfl, hc2⟩ := hv v h2 hp
    show V G F _ _ _ 8 [some (.ref a), some (.int p0), some (.int p1), some (.ref c), none] [.int y, .int (nI 0), .ref c] h2
    refine V.run hF [(.i2l, 1, .null)] (pc' := 9) (L' := [some (.ref a), some (.int p0), some (.int p1), some (.ref c), none]) (st' := [.long (Int32.toInt64 y), .int (nI 0), .ref c]) (by decide +kernel) rfl ?_
    refine V.lastN (j := 0) hG hF (by decide +kernel) hc2 (by omega) (by decide) ?_
    obtain ⟨h_2, gh2⟩ : ∃ z : Hp, z = hset h2 c (.inl (2, 1, .inr (.inl (vp_updL o 0 (Int32.toInt64 y))))) := ⟨_, rfl⟩
    refine V.hp gh2 ?_
    have gk2 : ∀ q : Nat, q ≠ c → h_2 q = h2 q := fun q hq => by rw [gh2]; exact hset_ne hq
    have gs2 : h_2 c = some (.inl (2, 1, .inr (.inl (vp_updL o 0 (Int32.toInt64 y))))) := by rw [gh2]; exact hset_eq
    refine V.run hF [(.goto 7, 3, .null), (.iconst 0, 1, .int 0)] (pc' := 18) (L' := [some (.ref a), some (.int p0), some (.int p1), some (.ref c), none]) (st' := [.int 0]) (by decide +kernel) rfl ?_
    exact V.reti hF (by decide +kernel) (Or.inl ⟨y, h2, o, hp, hc2, rfl, by assumption⟩)
  · obtain rfl := hx E h9 hx9
    refine VX.catch1 hG hF ht ⟨0, 10, 13, 21⟩ _ rfl (by decide) (by decide) tw_422 twc_I (fun q => ?_)
    show V G F _ _ _ 13 [some (.ref a), some (.int p0), some (.int p1), some (.ref c), none] [.ref q] h9
    refine V.run hF [(.astore 4, 2, .null), (.iconst 1, 1, .int 1)] (pc' := 16) (L' := [some (.ref a), some (.int p0), some (.int p1), some (.ref c), some (.ref q)]) (st' := [.int 1]) (by decide +kernel) rfl ?_
    exact V.reti hF (by decide +kernel) (Or.inr ⟨_, _, hx9, ⟨rfl, rfl⟩, rfl⟩)
set_option maxHeartbeats 4000000 in
theorem w_owes (hG : GOk G) (hN : GNc G) {p0 p1 : Int32} (hM : Ct G yX3_owes (.code yX3_owes cX3_owes 8 (some .int)) 7 102 2 12 [.ref a, .int p0, .int p1] h po px) (hA : h a = some (.inr (3, vs))) (hv : ∀ v h2, po v h2 → ∃ z o, v = some (.int z) ∧ h2 c = some (out1 o)) (hx : ∀ E h2, px E h2 → E = eI) :
    Ct G yL_owes (.codeWith yL_owes cL_owes 5 (some .int) [(0, 10, 13, 21)]) 8 129 2 12 [.ref a, .int p0, .int p1, .ref c] h (wI Int32.toInt64 po px c cdI) pxN := by
  refine Ct.ofH (by decide +kernel) (Nat.le_of_ble_eq_true rfl) fun F hF ht hRm => ?_
  refine V.run hF [(.aload_n 3, 1, .null), (.iconst 0, 1, .int (nI 0)), (.aload_n 0, 1, .null), (.iload_n 1, 1, .null), (.iload_n 2, 1, .null)] (pc' := 5) (L' := [some (.ref a), some (.int p0), some (.int p1), some (.ref c), none]) (st' := [.int p1, .int p0, .ref a, .int (nI 0), .ref c]) (by decide +kernel) rfl ?_
  refine V.callV (As := [.int p0, .int p1]) (st := [.int (nI 0), .ref c]) hG hF k_RL_75 (by decide +kernel) hM hA rfl rfl ⟨by rw [hRm]; decide, by rw [hRm]; decide⟩ (Nat.le_of_ble_eq_true rfl) rfl (fun v h2 hp => ?_) (fun E h9 hx9 => ?_)
  · obtain ⟨y, o, rfl, hc2⟩ := hv v h2 hp
    show V G F _ _ _ 8 [some (.ref a), some (.int p0), some (.int p1), some (.ref c), none] [.int y, .int (nI 0), .ref c] h2
    refine V.run hF [(.i2l, 1, .null)] (pc' := 9) (L' := [some (.ref a), some (.int p0), some (.int p1), some (.ref c), none]) (st' := [.long (Int32.toInt64 y), .int (nI 0), .ref c]) (by decide +kernel) rfl ?_
    refine V.lastN (j := 0) hG hF (by decide +kernel) hc2 (by omega) (by decide) ?_
    obtain ⟨h_2, gh2⟩ : ∃ z : Hp, z = hset h2 c (.inl (2, 1, .inr (.inl (vp_updL o 0 (Int32.toInt64 y))))) := ⟨_, rfl⟩
    refine V.hp gh2 ?_
    have gk2 : ∀ q : Nat, q ≠ c → h_2 q = h2 q := fun q hq => by rw [gh2]; exact hset_ne hq
    have gs2 : h_2 c = some (.inl (2, 1, .inr (.inl (vp_updL o 0 (Int32.toInt64 y))))) := by rw [gh2]; exact hset_eq
    refine V.run hF [(.goto 7, 3, .null), (.iconst 0, 1, .int 0)] (pc' := 18) (L' := [some (.ref a), some (.int p0), some (.int p1), some (.ref c), none]) (st' := [.int 0]) (by decide +kernel) rfl ?_
    exact V.reti hF (by decide +kernel) (Or.inl ⟨y, h2, o, hp, hc2, rfl, by assumption⟩)
  · obtain rfl := hx E h9 hx9
    refine VX.catch1 hG hF ht ⟨0, 10, 13, 21⟩ _ rfl (by decide) (by decide) tw_422 twc_I (fun q => ?_)
    show V G F _ _ _ 13 [some (.ref a), some (.int p0), some (.int p1), some (.ref c), none] [.ref q] h9
    refine V.run hF [(.astore 4, 2, .null), (.iconst 1, 1, .int 1)] (pc' := 16) (L' := [some (.ref a), some (.int p0), some (.int p1), some (.ref c), some (.ref q)]) (st' := [.int 1]) (by decide +kernel) rfl ?_
    exact V.reti hF (by decide +kernel) (Or.inr ⟨_, _, hx9, ⟨rfl, rfl⟩, rfl⟩)
set_option maxHeartbeats 4000000 in
theorem w_owesAlong (hG : GOk G) (hN : GNc G) {p0 : Int32} (hM : Ct G yX3_owesAlong (.code yX3_owesAlong cX3_owesAlong 2 (some .int)) 7 102 1 6 [.ref a, .int p0] h po px) (hA : h a = some (.inr (3, vs))) (hv : ∀ v h2, po v h2 → ∃ z o, v = some (.int z) ∧ h2 c = some (out1 o)) (hx : ∀ E h2, px E h2 → E = eI) :
    Ct G yL_owesAlong (.codeWith yL_owesAlong cL_owesAlong 4 (some .int) [(0, 9, 12, 21)]) 8 123 1 6 [.ref a, .int p0, .ref c] h (wI Int32.toInt64 po px c cdI) pxN := by
  refine Ct.ofH (by decide +kernel) (Nat.le_of_ble_eq_true rfl) fun F hF ht hRm => ?_
  refine V.run hF [(.aload_n 2, 1, .null), (.iconst 0, 1, .int (nI 0)), (.aload_n 0, 1, .null), (.iload_n 1, 1, .null)] (pc' := 4) (L' := [some (.ref a), some (.int p0), some (.ref c), none]) (st' := [.int p0, .ref a, .int (nI 0), .ref c]) (by decide +kernel) rfl ?_
  refine V.callV (As := [.int p0]) (st := [.int (nI 0), .ref c]) hG hF k_RL_78 (by decide +kernel) hM hA rfl rfl ⟨by rw [hRm]; decide, by rw [hRm]; decide⟩ (Nat.le_of_ble_eq_true rfl) rfl (fun v h2 hp => ?_) (fun E h9 hx9 => ?_)
  · obtain ⟨y, o, rfl, hc2⟩ := hv v h2 hp
    show V G F _ _ _ 7 [some (.ref a), some (.int p0), some (.ref c), none] [.int y, .int (nI 0), .ref c] h2
    refine V.run hF [(.i2l, 1, .null)] (pc' := 8) (L' := [some (.ref a), some (.int p0), some (.ref c), none]) (st' := [.long (Int32.toInt64 y), .int (nI 0), .ref c]) (by decide +kernel) rfl ?_
    refine V.lastN (j := 0) hG hF (by decide +kernel) hc2 (by omega) (by decide) ?_
    obtain ⟨h_2, gh2⟩ : ∃ z : Hp, z = hset h2 c (.inl (2, 1, .inr (.inl (vp_updL o 0 (Int32.toInt64 y))))) := ⟨_, rfl⟩
    refine V.hp gh2 ?_
    have gk2 : ∀ q : Nat, q ≠ c → h_2 q = h2 q := fun q hq => by rw [gh2]; exact hset_ne hq
    have gs2 : h_2 c = some (.inl (2, 1, .inr (.inl (vp_updL o 0 (Int32.toInt64 y))))) := by rw [gh2]; exact hset_eq
    refine V.run hF [(.goto 6, 3, .null), (.iconst 0, 1, .int 0)] (pc' := 16) (L' := [some (.ref a), some (.int p0), some (.ref c), none]) (st' := [.int 0]) (by decide +kernel) rfl ?_
    exact V.reti hF (by decide +kernel) (Or.inl ⟨y, h2, o, hp, hc2, rfl, by assumption⟩)
  · obtain rfl := hx E h9 hx9
    refine VX.catch1 hG hF ht ⟨0, 9, 12, 21⟩ _ rfl (by decide) (by decide) tw_422 twc_I (fun q => ?_)
    show V G F _ _ _ 12 [some (.ref a), some (.int p0), some (.ref c), none] [.ref q] h9
    refine V.run hF [(.astore_n 3, 1, .null), (.iconst 1, 1, .int 1)] (pc' := 14) (L' := [some (.ref a), some (.int p0), some (.ref c), some (.ref q)]) (st' := [.int 1]) (by decide +kernel) rfl ?_
    exact V.reti hF (by decide +kernel) (Or.inr ⟨_, _, hx9, ⟨rfl, rfl⟩, rfl⟩)
set_option maxHeartbeats 4000000 in
theorem w_linesSmoothed (hG : GOk G) (hN : GNc G) {p0 : Int32} (hM : Ct G yX3_linesSmoothed (.code yX3_linesSmoothed cX3_linesSmoothed 2 (some .int)) 7 104 2 12 [.ref a, .int p0] h po px) (hA : h a = some (.inr (3, vs))) (hv : ∀ v h2, po v h2 → ∃ z o, v = some (.int z) ∧ h2 c = some (out1 o)) (hx : ∀ E h2, px E h2 → E = eI) :
    Ct G yL_linesSmoothed (.codeWith yL_linesSmoothed cL_linesSmoothed 4 (some .int) [(0, 9, 12, 21)]) 8 125 2 12 [.ref a, .int p0, .ref c] h (wI Int32.toInt64 po px c cdI) pxN := by
  refine Ct.ofH (by decide +kernel) (Nat.le_of_ble_eq_true rfl) fun F hF ht hRm => ?_
  refine V.run hF [(.aload_n 2, 1, .null), (.iconst 0, 1, .int (nI 0)), (.aload_n 0, 1, .null), (.iload_n 1, 1, .null)] (pc' := 4) (L' := [some (.ref a), some (.int p0), some (.ref c), none]) (st' := [.int p0, .ref a, .int (nI 0), .ref c]) (by decide +kernel) rfl ?_
  refine V.callV (As := [.int p0]) (st := [.int (nI 0), .ref c]) hG hF k_RL_81 (by decide +kernel) hM hA rfl rfl ⟨by rw [hRm]; decide, by rw [hRm]; decide⟩ (Nat.le_of_ble_eq_true rfl) rfl (fun v h2 hp => ?_) (fun E h9 hx9 => ?_)
  · obtain ⟨y, o, rfl, hc2⟩ := hv v h2 hp
    show V G F _ _ _ 7 [some (.ref a), some (.int p0), some (.ref c), none] [.int y, .int (nI 0), .ref c] h2
    refine V.run hF [(.i2l, 1, .null)] (pc' := 8) (L' := [some (.ref a), some (.int p0), some (.ref c), none]) (st' := [.long (Int32.toInt64 y), .int (nI 0), .ref c]) (by decide +kernel) rfl ?_
    refine V.lastN (j := 0) hG hF (by decide +kernel) hc2 (by omega) (by decide) ?_
    obtain ⟨h_2, gh2⟩ : ∃ z : Hp, z = hset h2 c (.inl (2, 1, .inr (.inl (vp_updL o 0 (Int32.toInt64 y))))) := ⟨_, rfl⟩
    refine V.hp gh2 ?_
    have gk2 : ∀ q : Nat, q ≠ c → h_2 q = h2 q := fun q hq => by rw [gh2]; exact hset_ne hq
    have gs2 : h_2 c = some (.inl (2, 1, .inr (.inl (vp_updL o 0 (Int32.toInt64 y))))) := by rw [gh2]; exact hset_eq
    refine V.run hF [(.goto 6, 3, .null), (.iconst 0, 1, .int 0)] (pc' := 16) (L' := [some (.ref a), some (.int p0), some (.ref c), none]) (st' := [.int 0]) (by decide +kernel) rfl ?_
    exact V.reti hF (by decide +kernel) (Or.inl ⟨y, h2, o, hp, hc2, rfl, by assumption⟩)
  · obtain rfl := hx E h9 hx9
    refine VX.catch1 hG hF ht ⟨0, 9, 12, 21⟩ _ rfl (by decide) (by decide) tw_422 twc_I (fun q => ?_)
    show V G F _ _ _ 12 [some (.ref a), some (.int p0), some (.ref c), none] [.ref q] h9
    refine V.run hF [(.astore_n 3, 1, .null), (.iconst 1, 1, .int 1)] (pc' := 14) (L' := [some (.ref a), some (.int p0), some (.ref c), some (.ref q)]) (st' := [.int 1]) (by decide +kernel) rfl ?_
    exact V.reti hF (by decide +kernel) (Or.inr ⟨_, _, hx9, ⟨rfl, rfl⟩, rfl⟩)
set_option maxHeartbeats 4000000 in
theorem w_atRisk (hG : GOk G) (hN : GNc G) {p0 : Int32} (hM : Ct G yX3_atRisk (.code yX3_atRisk cX3_atRisk 7 (some .int)) 7 102 1 6 [.ref a, .int p0] h po px) (hA : h a = some (.inr (3, vs))) (hv : ∀ v h2, po v h2 → ∃ z o, v = some (.int z) ∧ h2 c = some (out1 o)) (hx : ∀ E h2, px E h2 → E = eI) :
    Ct G yL_atRisk (.codeWith yL_atRisk cL_atRisk 4 (some .int) [(0, 9, 12, 21)]) 8 128 1 6 [.ref a, .int p0, .ref c] h (wI Int32.toInt64 po px c cdI) pxN := by
  refine Ct.ofH (by decide +kernel) (Nat.le_of_ble_eq_true rfl) fun F hF ht hRm => ?_
  refine V.run hF [(.aload_n 2, 1, .null), (.iconst 0, 1, .int (nI 0)), (.aload_n 0, 1, .null), (.iload_n 1, 1, .null)] (pc' := 4) (L' := [some (.ref a), some (.int p0), some (.ref c), none]) (st' := [.int p0, .ref a, .int (nI 0), .ref c]) (by decide +kernel) rfl ?_
  refine V.callV (As := [.int p0]) (st := [.int (nI 0), .ref c]) hG hF k_RL_84 (by decide +kernel) hM hA rfl rfl ⟨by rw [hRm]; decide, by rw [hRm]; decide⟩ (Nat.le_of_ble_eq_true rfl) rfl (fun v h2 hp => ?_) (fun E h9 hx9 => ?_)
  · obtain ⟨y, o, rfl, hc2⟩ := hv v h2 hp
    show V G F _ _ _ 7 [some (.ref a), some (.int p0), some (.ref c), none] [.int y, .int (nI 0), .ref c] h2
    refine V.run hF [(.i2l, 1, .null)] (pc' := 8) (L' := [some (.ref a), some (.int p0), some (.ref c), none]) (st' := [.long (Int32.toInt64 y), .int (nI 0), .ref c]) (by decide +kernel) rfl ?_
    refine V.lastN (j := 0) hG hF (by decide +kernel) hc2 (by omega) (by decide) ?_
    obtain ⟨h_2, gh2⟩ : ∃ z : Hp, z = hset h2 c (.inl (2, 1, .inr (.inl (vp_updL o 0 (Int32.toInt64 y))))) := ⟨_, rfl⟩
    refine V.hp gh2 ?_
    have gk2 : ∀ q : Nat, q ≠ c → h_2 q = h2 q := fun q hq => by rw [gh2]; exact hset_ne hq
    have gs2 : h_2 c = some (.inl (2, 1, .inr (.inl (vp_updL o 0 (Int32.toInt64 y))))) := by rw [gh2]; exact hset_eq
    refine V.run hF [(.goto 6, 3, .null), (.iconst 0, 1, .int 0)] (pc' := 16) (L' := [some (.ref a), some (.int p0), some (.ref c), none]) (st' := [.int 0]) (by decide +kernel) rfl ?_
    exact V.reti hF (by decide +kernel) (Or.inl ⟨y, h2, o, hp, hc2, rfl, by assumption⟩)
  · obtain rfl := hx E h9 hx9
    refine VX.catch1 hG hF ht ⟨0, 9, 12, 21⟩ _ rfl (by decide) (by decide) tw_422 twc_I (fun q => ?_)
    show V G F _ _ _ 12 [some (.ref a), some (.int p0), some (.ref c), none] [.ref q] h9
    refine V.run hF [(.astore_n 3, 1, .null), (.iconst 1, 1, .int 1)] (pc' := 14) (L' := [some (.ref a), some (.int p0), some (.ref c), some (.ref q)]) (st' := [.int 1]) (by decide +kernel) rfl ?_
    exact V.reti hF (by decide +kernel) (Or.inr ⟨_, _, hx9, ⟨rfl, rfl⟩, rfl⟩)
set_option maxHeartbeats 4000000 in
theorem w_yearsUntilMelted (hG : GOk G) (hN : GNc G) {p0 : Int32} (hM : Ct G yX3_yearsUntilMelted (.code yX3_yearsUntilMelted cX3_yearsUntilMelted 2 (some .int)) 7 104 2 12 [.ref a, .int p0] h po px) (hA : h a = some (.inr (3, vs))) (hv : ∀ v h2, po v h2 → ∃ z o, v = some (.int z) ∧ h2 c = some (out1 o)) (hx : ∀ E h2, px E h2 → E = eI) :
    Ct G yL_yearsUntilMelted (.codeWith yL_yearsUntilMelted cL_yearsUntilMelted 4 (some .int) [(0, 9, 12, 21)]) 8 125 2 12 [.ref a, .int p0, .ref c] h (wI Int32.toInt64 po px c cdI) pxN := by
  refine Ct.ofH (by decide +kernel) (Nat.le_of_ble_eq_true rfl) fun F hF ht hRm => ?_
  refine V.run hF [(.aload_n 2, 1, .null), (.iconst 0, 1, .int (nI 0)), (.aload_n 0, 1, .null), (.iload_n 1, 1, .null)] (pc' := 4) (L' := [some (.ref a), some (.int p0), some (.ref c), none]) (st' := [.int p0, .ref a, .int (nI 0), .ref c]) (by decide +kernel) rfl ?_
  refine V.callV (As := [.int p0]) (st := [.int (nI 0), .ref c]) hG hF k_RL_87 (by decide +kernel) hM hA rfl rfl ⟨by rw [hRm]; decide, by rw [hRm]; decide⟩ (Nat.le_of_ble_eq_true rfl) rfl (fun v h2 hp => ?_) (fun E h9 hx9 => ?_)
  · obtain ⟨y, o, rfl, hc2⟩ := hv v h2 hp
    show V G F _ _ _ 7 [some (.ref a), some (.int p0), some (.ref c), none] [.int y, .int (nI 0), .ref c] h2
    refine V.run hF [(.i2l, 1, .null)] (pc' := 8) (L' := [some (.ref a), some (.int p0), some (.ref c), none]) (st' := [.long (Int32.toInt64 y), .int (nI 0), .ref c]) (by decide +kernel) rfl ?_
    refine V.lastN (j := 0) hG hF (by decide +kernel) hc2 (by omega) (by decide) ?_
    obtain ⟨h_2, gh2⟩ : ∃ z : Hp, z = hset h2 c (.inl (2, 1, .inr (.inl (vp_updL o 0 (Int32.toInt64 y))))) := ⟨_, rfl⟩
    refine V.hp gh2 ?_
    have gk2 : ∀ q : Nat, q ≠ c → h_2 q = h2 q := fun q hq => by rw [gh2]; exact hset_ne hq
    have gs2 : h_2 c = some (.inl (2, 1, .inr (.inl (vp_updL o 0 (Int32.toInt64 y))))) := by rw [gh2]; exact hset_eq
    refine V.run hF [(.goto 6, 3, .null), (.iconst 0, 1, .int 0)] (pc' := 16) (L' := [some (.ref a), some (.int p0), some (.ref c), none]) (st' := [.int 0]) (by decide +kernel) rfl ?_
    exact V.reti hF (by decide +kernel) (Or.inl ⟨y, h2, o, hp, hc2, rfl, by assumption⟩)
  · obtain rfl := hx E h9 hx9
    refine VX.catch1 hG hF ht ⟨0, 9, 12, 21⟩ _ rfl (by decide) (by decide) tw_422 twc_I (fun q => ?_)
    show V G F _ _ _ 12 [some (.ref a), some (.int p0), some (.ref c), none] [.ref q] h9
    refine V.run hF [(.astore_n 3, 1, .null), (.iconst 1, 1, .int 1)] (pc' := 14) (L' := [some (.ref a), some (.int p0), some (.ref c), some (.ref q)]) (st' := [.int 1]) (by decide +kernel) rfl ?_
    exact V.reti hF (by decide +kernel) (Or.inr ⟨_, _, hx9, ⟨rfl, rfl⟩, rfl⟩)
set_option maxHeartbeats 4000000 in
theorem w_meltsIn (hG : GOk G) (hN : GNc G) {p0 : Int32} (hM : Ct G yX3_meltsIn (.code yX3_meltsIn cX3_meltsIn 8 (some .int)) 7 102 1 6 [.ref a, .int p0] h po px) (hA : h a = some (.inr (3, vs))) (hv : ∀ v h2, po v h2 → ∃ z o, v = some (.int z) ∧ h2 c = some (out1 o)) (hx : ∀ E h2, px E h2 → E = eA) :
    Ct G yL_meltsIn (.codeWith yL_meltsIn cL_meltsIn 4 (some .int) [(0, 9, 12, 13)]) 8 129 1 6 [.ref a, .int p0, .ref c] h (wI Int32.toInt64 po px c cdA) pxN := by
  refine Ct.ofH (by decide +kernel) (Nat.le_of_ble_eq_true rfl) fun F hF ht hRm => ?_
  refine V.run hF [(.aload_n 2, 1, .null), (.iconst 0, 1, .int (nI 0)), (.aload_n 0, 1, .null), (.iload_n 1, 1, .null)] (pc' := 4) (L' := [some (.ref a), some (.int p0), some (.ref c), none]) (st' := [.int p0, .ref a, .int (nI 0), .ref c]) (by decide +kernel) rfl ?_
  refine V.callV (As := [.int p0]) (st := [.int (nI 0), .ref c]) hG hF k_RL_90 (by decide +kernel) hM hA rfl rfl ⟨by rw [hRm]; decide, by rw [hRm]; decide⟩ (Nat.le_of_ble_eq_true rfl) rfl (fun v h2 hp => ?_) (fun E h9 hx9 => ?_)
  · obtain ⟨y, o, rfl, hc2⟩ := hv v h2 hp
    show V G F _ _ _ 7 [some (.ref a), some (.int p0), some (.ref c), none] [.int y, .int (nI 0), .ref c] h2
    refine V.run hF [(.i2l, 1, .null)] (pc' := 8) (L' := [some (.ref a), some (.int p0), some (.ref c), none]) (st' := [.long (Int32.toInt64 y), .int (nI 0), .ref c]) (by decide +kernel) rfl ?_
    refine V.lastN (j := 0) hG hF (by decide +kernel) hc2 (by omega) (by decide) ?_
    obtain ⟨h_2, gh2⟩ : ∃ z : Hp, z = hset h2 c (.inl (2, 1, .inr (.inl (vp_updL o 0 (Int32.toInt64 y))))) := ⟨_, rfl⟩
    refine V.hp gh2 ?_
    have gk2 : ∀ q : Nat, q ≠ c → h_2 q = h2 q := fun q hq => by rw [gh2]; exact hset_ne hq
    have gs2 : h_2 c = some (.inl (2, 1, .inr (.inl (vp_updL o 0 (Int32.toInt64 y))))) := by rw [gh2]; exact hset_eq
    refine V.run hF [(.goto 6, 3, .null), (.iconst 0, 1, .int 0)] (pc' := 16) (L' := [some (.ref a), some (.int p0), some (.ref c), none]) (st' := [.int 0]) (by decide +kernel) rfl ?_
    exact V.reti hF (by decide +kernel) (Or.inl ⟨y, h2, o, hp, hc2, rfl, by assumption⟩)
  · obtain rfl := hx E h9 hx9
    refine VX.catch1 hG hF ht ⟨0, 9, 12, 13⟩ _ rfl (by decide) (by decide) tw_378 twc_A (fun q => ?_)
    show V G F _ _ _ 12 [some (.ref a), some (.int p0), some (.ref c), none] [.ref q] h9
    refine V.run hF [(.astore_n 3, 1, .null), (.iconst 1, 1, .int 1)] (pc' := 14) (L' := [some (.ref a), some (.int p0), some (.ref c), some (.ref q)]) (st' := [.int 1]) (by decide +kernel) rfl ?_
    exact V.reti hF (by decide +kernel) (Or.inr ⟨_, _, hx9, ⟨rfl, rfl⟩, rfl⟩)
end Wr
