/-! ===== TallyWax: pay, deny, smooth ===== -/
section Os
variable {G : Gt} {h : Hp} {A : Nat → Nat} {σ : Sg} {P : PS} {r : Nat → Int32}
def sTake (σ : Sg) (t l : Nat) : Sg := sTab σ t (gha σ t) (gce σ t) (gn σ t - 1) (shk l (gn σ t - 1 - l) (gDD σ t)) (shk l (gn σ t - 1 - l) (gC σ t)) (shk l (gn σ t - 1 - l) (gM σ t)) (shk l (gn σ t - 1 - l) (gW σ t))
def sLess (σ : Sg) (t l : Nat) (x : Int32) : Sg := sTab σ t (gha σ t) (gce σ t) (gn σ t) (gDD σ t) (gC σ t) (upd (gM σ t) l x) (gW σ t)
abbrev am (σ : Sg) (x y : Int32) : Int32 := gM σ x.toNatClampNeg y.toNatClampNeg
abbrev py2 (σ : Sg) (x y a : Int32) : Prop := ¬ a < 1 ∧ a ≤ am σ x y
def sPay (σ : Sg) (t l : Nat) (a : Int32) : Sg := if gM σ t l - a = 0 then sTake σ t l else sLess σ t l (gM σ t l - a)
set_option maxHeartbeats 8000000 in
theorem c_X3_pay (hG : GOk G) (hC : CS h A σ P r) (x y a : Int32) : Ct G yX3_pay (.code yX3_pay cX3_pay 6 (some .int)) 8 127 3 18 [.ref (A 0), .int x, .int y, .int a] h
    (fun v h' => okL σ x y ∧ py2 σ x y a ∧ ∃ t l, t < gT σ ∧ l < gn σ t ∧ x = nI t ∧ y = nI l ∧ v = some (.int (gM σ t l - a)) ∧ CS h' A (sPay σ t l a) P r ∧ kpC h h' A (12 + 6 * gT σ)) (px3 (okL σ x y) (py2 σ x y a) True h) := by
  refine Ct.of (by decide +kernel) (Nat.le_of_ble_eq_true rfl) fun F hF hT hN hRm => ?_
  obtain ⟨hI, hT8, hA, h1, h2, h3, h4, h5, h6⟩ := id hC
  refine V.run hF [(.aload_n 0, 1, .null), (.iload_n 1, 1, .null), (.iload_n 2, 1, .null)] (pc' := 3) (L' := [some (.ref (A 0)), some (.int x), some (.int y), some (.int a), none, none]) (st' := [.int y, .int x, .ref (A 0)]) (by decide +kernel) rfl ?_
  refine V.callV (As := [.int x, .int y]) (st := []) hG hF k_RX3_84 (by decide +kernel) (c_X3_linesWith hG hC x y) hA rfl rfl ⟨by rw [hRm]; decide, by rw [hRm]; decide⟩ (Nat.le_of_ble_eq_true rfl) rfl (fun v h1' hp => ?_) (fun E h9 hx => VX.out hF hT ⟨Or.inl ⟨hx.1, hx.2.1⟩, hx.2.2⟩)
  obtain ⟨⟨t, l, ht, hl, rfl, rfl, rfl⟩, he⟩ := hp
  rw [he]
  obtain ⟨t1, t2, t3⟩ := h6 t ht
  show V G F _ _ _ 6 [some (.ref (A 0)), some (.int (nI t)), some (.int (nI l)), some (.int a), none, none] [.ref (A (13 + 6 * t))] h
  have w1 : okL σ (nI t) (nI l) := ⟨t, l, ht, hl, rfl, rfl⟩
  have ea : am σ (nI t) (nI l) = gM σ t l := by
    show gM σ (nI t).toNatClampNeg (nI l).toNatClampNeg = _
    rw [nI_clamp (by omega), nI_clamp (by omega)]
  refine V.run hF [(.astore 4, 2, .null), (.iload_n 3, 1, .null), (.iconst 1, 1, .int 1)] (pc' := 10) (L' := [some (.ref (A 0)), some (.int (nI t)), some (.int (nI l)), some (.int a), some (.ref (A (13 + 6 * t))), none]) (st' := [.int 1, .int a]) (by decide +kernel) rfl ?_
  refine V.icmp_lt hF (off := 14) (tgt := 24) (by decide +kernel) (by decide) (fun c1 => ?_) (fun c1 => ?_)
  · skip
    exact V.throwS hG hF hT kt_RX3_91 (by decide +kernel) (by decide +kernel) (by decide +kernel) (by decide +kernel) (by decide +kernel) ⟨by rw [hRm]; decide, by rw [hRm]; decide⟩ ⟨Or.inr (Or.inl ⟨rfl, w1, fun q => q.1 c1⟩), rfl⟩
  · skip
    refine V.run hF [(.iload_n 3, 1, .null), (.aload 4, 2, .null)] (pc' := 16) (L' := [some (.ref (A 0)), some (.int (nI t)), some (.int (nI l)), some (.int a), some (.ref (A (13 + 6 * t))), none]) (st' := [.ref (A (13 + 6 * t)), .int a]) (by decide +kernel) rfl ?_
    refine V.getf hG hF k_RX3_88 (by decide +kernel) t2.1 rfl ?_
    refine V.run hF [(.iload_n 2, 1, .null)] (pc' := 20) (L' := [some (.ref (A 0)), some (.int (nI t)), some (.int (nI l)), some (.int a), some (.ref (A (13 + 6 * t))), none]) (st' := [.int (nI l), .ref (A (16 + 6 * t)), .int a]) (by decide +kernel) rfl ?_
    refine V.ialdN (j := l) hG hF (by decide +kernel) t2.2.2.2.1 (by omega) (by decide) ?_
    refine V.icmp_le hF (off := 13) (tgt := 34) (by decide +kernel) (by decide) (fun c2 => ?_) (fun c2 => ?_)
    · have w2 : py2 σ (nI t) (nI l) a := ⟨c1, by rw [ea]; exact c2⟩
      refine V.run hF [(.aload 4, 2, .null)] (pc' := 36) (L' := [some (.ref (A 0)), some (.int (nI t)), some (.int (nI l)), some (.int a), some (.ref (A (13 + 6 * t))), none]) (st' := [.ref (A (13 + 6 * t))]) (by decide +kernel) rfl ?_
      refine V.getf hG hF k_RX3_88 (by decide +kernel) t2.1 rfl ?_
      refine V.run hF [(.iload_n 2, 1, .null)] (pc' := 40) (L' := [some (.ref (A 0)), some (.int (nI t)), some (.int (nI l)), some (.int a), some (.ref (A (13 + 6 * t))), none]) (st' := [.int (nI l), .ref (A (16 + 6 * t))]) (by decide +kernel) rfl ?_
      refine V.ialdN (j := l) hG hF (by decide +kernel) t2.2.2.2.1 (by omega) (by decide) ?_
      refine V.run hF [(.iload_n 3, 1, .null), (.isub, 1, .null), (.istore 5, 2, .null), (.iload 5, 2, .null)] (pc' := 47) (L' := [some (.ref (A 0)), some (.int (nI t)), some (.int (nI l)), some (.int a), some (.ref (A (13 + 6 * t))), some (.int ((gM σ t) l - a))]) (st' := [.int ((gM σ t) l - a)]) (by decide +kernel) rfl ?_
      refine V.if_ne hF (off := 12) (tgt := 59) (by decide +kernel) (by decide) (fun c3 => ?_) (fun c3 => ?_)
      · skip
        refine V.run hF [(.aload 4, 2, .null)] (pc' := 61) (L' := [some (.ref (A 0)), some (.int (nI t)), some (.int (nI l)), some (.int a), some (.ref (A (13 + 6 * t))), some (.int ((gM σ t) l - a))]) (st' := [.ref (A (13 + 6 * t))]) (by decide +kernel) rfl ?_
        refine V.getf hG hF k_RX3_88 (by decide +kernel) t2.1 rfl ?_
        refine V.run hF [(.iload_n 2, 1, .null), (.iload 5, 2, .null)] (pc' := 67) (L' := [some (.ref (A 0)), some (.int (nI t)), some (.int (nI l)), some (.int a), some (.ref (A (13 + 6 * t))), some (.int ((gM σ t) l - a))]) (st' := [.int ((gM σ t) l - a), .int (nI l), .ref (A (16 + 6 * t))]) (by decide +kernel) rfl ?_
        refine V.iastN (j := l) hG hF (by decide +kernel) t2.2.2.2.1 (by omega) (by decide) ?_
        obtain ⟨h_2, gh2⟩ : ∃ z : Hp, z = hset h (A (16 + 6 * t)) (.inl (0, 12, .inl (upd (gM σ t) l ((gM σ t) l - a)))) := ⟨_, rfl⟩
        refine V.hp gh2 ?_
        have gk2 : ∀ q : Nat, q ≠ (A (16 + 6 * t)) → h_2 q = h q := fun q hq => by rw [gh2]; exact hset_ne hq
        have gs2 : h_2 (A (16 + 6 * t)) = some (.inl (0, 12, .inl (upd (gM σ t) l ((gM σ t) l - a)))) := by rw [gh2]; exact hset_eq
        refine V.run hF [(.iload 5, 2, .null)] (pc' := 70) (L' := [some (.ref (A 0)), some (.int (nI t)), some (.int (nI l)), some (.int a), some (.ref (A (13 + 6 * t))), some (.int ((gM σ t) l - a))]) (st' := [.int ((gM σ t) l - a)]) (by decide +kernel) rfl ?_
        have nw : ∀ i, 13 + 6 * t ≤ i → i < 18 + 6 * t → i ≠ 16 + 6 * t → A i ≠ A (16 + 6 * t) := fun i h1 h2 h3 => hI.ne (by omega) (by omega) h3
        have hk : kp5 h h_2 (A (13 + 6 * t)) (A (14 + 6 * t)) (A (15 + 6 * t)) (A (16 + 6 * t)) (A (17 + 6 * t)) := fun q e1 e2 e3 e4 e5 => gk2 q e4
        have hL : LLc h_2 (A (13 + 6 * t)) (A (14 + 6 * t)) (A (15 + 6 * t)) (A (16 + 6 * t)) (A (17 + 6 * t)) (gDD σ t) (gC σ t) (upd (gM σ t) l (gM σ t l - a)) (gW σ t) (gn σ t) := ⟨(gk2 _ (nw _ (by omega) (by omega) (by omega))).trans t2.1, (gk2 _ (nw _ (by omega) (by omega) (by omega))).trans t2.2.1, (gk2 _ (nw _ (by omega) (by omega) (by omega))).trans t2.2.2.1, gs2, (gk2 _ (nw _ (by omega) (by omega) (by omega))).trans t2.2.2.2.2⟩
        obtain ⟨hC2, hk2⟩ := hC.ln ht hL t3 hk
        exact V.reti hF (by decide +kernel) ⟨w1, w2, t, l, ht, hl, rfl, rfl, rfl, by rw [sPay, if_neg c3]; exact hC2, hk2⟩
      · skip
        refine V.run hF [(.aload 4, 2, .null), (.iload_n 2, 1, .null)] (pc' := 53) (L' := [some (.ref (A 0)), some (.int (nI t)), some (.int (nI l)), some (.int a), some (.ref (A (13 + 6 * t))), some (.int ((gM σ t) l - a))]) (st' := [.int (nI l), .ref (A (13 + 6 * t))]) (by decide +kernel) rfl ?_
        refine V.callVN (As := [.int (nI l)]) (st := []) hG hF k_RX3_93 (by decide +kernel) (c_X0_takeOut hG t2 (hC.nd4 ht) t3 hl) t2.1 rfl rfl ⟨by rw [hRm]; decide, by rw [hRm]; decide⟩ (Nat.le_of_ble_eq_true rfl) rfl (fun v1 h2 hp => ?_)
        obtain ⟨hv, hL, hk⟩ := hp
        rw [hv]
        obtain ⟨hC2, hk2⟩ := hC.ln ht hL (by omega) hk
        show V G F _ _ _ 56 [some (.ref (A 0)), some (.int (nI t)), some (.int (nI l)), some (.int a), some (.ref (A (13 + 6 * t))), some (.int ((gM σ t) l - a))] [] h2
        refine V.run hF [(.goto 12, 3, .null), (.iload 5, 2, .null)] (pc' := 70) (L' := [some (.ref (A 0)), some (.int (nI t)), some (.int (nI l)), some (.int a), some (.ref (A (13 + 6 * t))), some (.int ((gM σ t) l - a))]) (st' := [.int ((gM σ t) l - a)]) (by decide +kernel) rfl ?_
        exact V.reti hF (by decide +kernel) ⟨w1, w2, t, l, ht, hl, rfl, rfl, rfl, by rw [sPay, if_pos c3]; exact hC2, hk2⟩
    · skip
      exact V.throwS hG hF hT kt_RX3_91 (by decide +kernel) (by decide +kernel) (by decide +kernel) (by decide +kernel) (by decide +kernel) ⟨by rw [hRm]; decide, by rw [hRm]; decide⟩ ⟨Or.inr (Or.inl ⟨rfl, w1, fun q => c2 (by rw [← ea]; exact q.2)⟩), rfl⟩
/-- deny -/
abbrev dy2 (σ : Sg) (x y : Int32) : Prop := ¬ prs σ (gW σ x.toNatClampNeg y.toNatClampNeg) ∧ prs σ (gDD σ x.toNatClampNeg y.toNatClampNeg)
def sDeny (σ : Sg) (t l : Nat) : Sg := sYmd (sTake σ t l) (gy σ) (gme σ) (gde σ + gM σ t l)
set_option maxHeartbeats 8000000 in
theorem c_X3_deny (hG : GOk G) (hC : CS h A σ P r) (x y : Int32) : Ct G yX3_deny (.code yX3_deny cX3_deny 5 (some .int)) 8 127 4 24 [.ref (A 0), .int x, .int y] h
    (fun v h' => okL σ x y ∧ dy2 σ x y ∧ ∃ t l, t < gT σ ∧ l < gn σ t ∧ x = nI t ∧ y = nI l ∧ v = some (.int (gM σ t l)) ∧ CS h' A (sDeny σ t l) P r ∧ kpC h h' A (12 + 6 * gT σ)) (px3 (okL σ x y) True (dy2 σ x y) h) := by
  refine Ct.of (by decide +kernel) (Nat.le_of_ble_eq_true rfl) fun F hF hT hN hRm => ?_
  obtain ⟨hI, hT8, hA, h1, h2, h3, h4, h5, h6⟩ := id hC
  refine V.run hF [(.aload_n 0, 1, .null), (.iload_n 1, 1, .null), (.iload_n 2, 1, .null)] (pc' := 3) (L' := [some (.ref (A 0)), some (.int x), some (.int y), none, none]) (st' := [.int y, .int x, .ref (A 0)]) (by decide +kernel) rfl ?_
  refine V.callV (As := [.int x, .int y]) (st := []) hG hF k_RX3_84 (by decide +kernel) (c_X3_linesWith hG hC x y) hA rfl rfl ⟨by rw [hRm]; decide, by rw [hRm]; decide⟩ (Nat.le_of_ble_eq_true rfl) rfl (fun v h1' hp => ?_) (fun E h9 hx => VX.out hF hT ⟨Or.inl ⟨hx.1, hx.2.1⟩, hx.2.2⟩)
  obtain ⟨⟨t, l, ht, hl, rfl, rfl, rfl⟩, he⟩ := hp
  rw [he]
  obtain ⟨t1, t2, t3⟩ := h6 t ht
  show V G F _ _ _ 6 [some (.ref (A 0)), some (.int (nI t)), some (.int (nI l)), none, none] [.ref (A (13 + 6 * t))] h
  have w1 : okL σ (nI t) (nI l) := ⟨t, l, ht, hl, rfl, rfl⟩
  have ct : (nI t).toNatClampNeg = t := nI_clamp (by omega)
  have cl : (nI l).toNatClampNeg = l := nI_clamp (by omega)
  refine V.run hF [(.astore_n 3, 1, .null), (.aload_n 0, 1, .null), (.aload_n 3, 1, .null)] (pc' := 9) (L' := [some (.ref (A 0)), some (.int (nI t)), some (.int (nI l)), some (.ref (A (13 + 6 * t))), none]) (st' := [.ref (A (13 + 6 * t)), .ref (A 0)]) (by decide +kernel) rfl ?_
  refine V.getf hG hF k_RX3_96 (by decide +kernel) t2.1 rfl ?_
  refine V.run hF [(.iload_n 2, 1, .null)] (pc' := 13) (L' := [some (.ref (A 0)), some (.int (nI t)), some (.int (nI l)), some (.ref (A (13 + 6 * t))), none]) (st' := [.int (nI l), .ref (A (17 + 6 * t)), .ref (A 0)]) (by decide +kernel) rfl ?_
  refine V.ialdN (j := l) hG hF (by decide +kernel) t2.2.2.2.2 (by omega) (by decide) ?_
  refine V.callV (As := [.int ((gW σ t) l)]) (st := []) hG hF k_RX3_74 (by decide +kernel) (c_X3_isPresent hG hC (gW σ t l)) hA rfl rfl ⟨by rw [hRm]; decide, by rw [hRm]; decide⟩ (Nat.le_of_ble_eq_true rfl) rfl (fun v h_2 gp2 => ?_) (fun E h9 hx => hx.elim)
  obtain ⟨rfl, he_gp2⟩ := gp2
  rw [he_gp2]
  show V G F _ _ _ 17 [some (.ref (A 0)), some (.int (nI t)), some (.int (nI l)), some (.ref (A (13 + 6 * t))), none] [.int (tf (prs σ (gW σ t l)))] h
  refine V.if_eq hF (off := 13) (tgt := 30) (by decide +kernel) (by decide) (fun c1 => ?_) (fun c1 => ?_)
  · skip
    refine V.run hF [(.aload_n 0, 1, .null), (.aload_n 3, 1, .null)] (pc' := 32) (L' := [some (.ref (A 0)), some (.int (nI t)), some (.int (nI l)), some (.ref (A (13 + 6 * t))), none]) (st' := [.ref (A (13 + 6 * t)), .ref (A 0)]) (by decide +kernel) rfl ?_
    refine V.getf hG hF k_RX3_101 (by decide +kernel) t2.1 rfl ?_
    refine V.run hF [(.iload_n 2, 1, .null)] (pc' := 36) (L' := [some (.ref (A 0)), some (.int (nI t)), some (.int (nI l)), some (.ref (A (13 + 6 * t))), none]) (st' := [.int (nI l), .ref (A (14 + 6 * t)), .ref (A 0)]) (by decide +kernel) rfl ?_
    refine V.ialdN (j := l) hG hF (by decide +kernel) t2.2.1 (by omega) (by decide) ?_
    refine V.callV (As := [.int ((gDD σ t) l)]) (st := []) hG hF k_RX3_74 (by decide +kernel) (c_X3_isPresent hG hC (gDD σ t l)) hA rfl rfl ⟨by rw [hRm]; decide, by rw [hRm]; decide⟩ (Nat.le_of_ble_eq_true rfl) rfl (fun v h_3 gp3 => ?_) (fun E h9 hx => hx.elim)
    obtain ⟨rfl, he_gp3⟩ := gp3
    rw [he_gp3]
    show V G F _ _ _ 40 [some (.ref (A 0)), some (.int (nI t)), some (.int (nI l)), some (.ref (A (13 + 6 * t))), none] [.int (tf (prs σ (gDD σ t l)))] h
    refine V.if_ne hF (off := 13) (tgt := 53) (by decide +kernel) (by decide) (fun c2 => ?_) (fun c2 => ?_)
    · have w2 : dy2 σ (nI t) (nI l) := by
        rw [dy2, ct, cl]
        exact ⟨tf_0 c1, tf_1 c2⟩
      refine V.run hF [(.aload_n 3, 1, .null)] (pc' := 54) (L' := [some (.ref (A 0)), some (.int (nI t)), some (.int (nI l)), some (.ref (A (13 + 6 * t))), none]) (st' := [.ref (A (13 + 6 * t))]) (by decide +kernel) rfl ?_
      refine V.getf hG hF k_RX3_88 (by decide +kernel) t2.1 rfl ?_
      refine V.run hF [(.iload_n 2, 1, .null)] (pc' := 58) (L' := [some (.ref (A 0)), some (.int (nI t)), some (.int (nI l)), some (.ref (A (13 + 6 * t))), none]) (st' := [.int (nI l), .ref (A (16 + 6 * t))]) (by decide +kernel) rfl ?_
      refine V.ialdN (j := l) hG hF (by decide +kernel) t2.2.2.2.1 (by omega) (by decide) ?_
      refine V.run hF [(.istore 4, 2, .null), (.aload_n 3, 1, .null), (.iload_n 2, 1, .null)] (pc' := 63) (L' := [some (.ref (A 0)), some (.int (nI t)), some (.int (nI l)), some (.ref (A (13 + 6 * t))), some (.int ((gM σ t) l))]) (st' := [.int (nI l), .ref (A (13 + 6 * t))]) (by decide +kernel) rfl ?_
      refine V.callVN (As := [.int (nI l)]) (st := []) hG hF k_RX3_93 (by decide +kernel) (c_X0_takeOut hG t2 (hC.nd4 ht) t3 hl) t2.1 rfl rfl ⟨by rw [hRm]; decide, by rw [hRm]; decide⟩ (Nat.le_of_ble_eq_true rfl) rfl (fun v1 h2 hp => ?_)
      obtain ⟨hv, hL, hk⟩ := hp
      rw [hv]
      obtain ⟨hC2, hk2⟩ := hC.ln ht hL (by omega) hk
      obtain ⟨-, -, hA2, -⟩ := id hC2
      have hA2 : h2 (A 0) = some (.inr (3, [.ref (A 1), .ref (A 2), .ref (A 3), .ref (A 4), .ref (A 5), .int (nI (gT σ)), .int (nI (gy σ)), .int (gme σ), .int (gde σ)])) := hA2
      show V G F _ _ _ 66 [some (.ref (A 0)), some (.int (nI t)), some (.int (nI l)), some (.ref (A (13 + 6 * t))), some (.int ((gM σ t) l))] [] h2
      refine V.run hF [(.aload_n 0, 1, .null), (.dup, 1, .null)] (pc' := 68) (L' := [some (.ref (A 0)), some (.int (nI t)), some (.int (nI l)), some (.ref (A (13 + 6 * t))), some (.int ((gM σ t) l))]) (st' := [.ref (A 0), .ref (A 0)]) (by decide +kernel) rfl ?_
      refine V.getf hG hF k_RX3_106 (by decide +kernel) hA2 rfl ?_
      refine V.run hF [(.iload 4, 2, .null), (.iadd, 1, .null)] (pc' := 74) (L' := [some (.ref (A 0)), some (.int (nI t)), some (.int (nI l)), some (.ref (A (13 + 6 * t))), some (.int ((gM σ t) l))]) (st' := [.int (gde σ + (gM σ t) l), .ref (A 0)]) (by decide +kernel) rfl ?_
      refine V.putf hG hF k_RX3_106 (by decide +kernel) hA2 (fun C T N hc => by cases hc; exact ⟨rfl, .int, by decide +kernel, rfl, rfl⟩) (Nat.le_of_ble_eq_true rfl) ?_
      obtain ⟨h_5, gh5⟩ : ∃ z : Hp, z = hset h2 (A 0) (.inr (3, [.ref (A 1), .ref (A 2), .ref (A 3), .ref (A 4), .ref (A 5), .int (nI (gT σ)), .int (nI (gy σ)), .int (gme σ), .int (gde σ + (gM σ t) l)])) := ⟨_, rfl⟩
      refine V.hp gh5 ?_
      have gk5 : ∀ q : Nat, q ≠ (A 0) → h_5 q = h2 q := fun q hq => by rw [gh5]; exact hset_ne hq
      have gs5 : h_5 (A 0) = some (.inr (3, [.ref (A 1), .ref (A 2), .ref (A 3), .ref (A 4), .ref (A 5), .int (nI (gT σ)), .int (nI (gy σ)), .int (gme σ), .int (gde σ + (gM σ t) l)])) := by rw [gh5]; exact hset_eq
      refine V.run hF [(.iload 4, 2, .null)] (pc' := 79) (L' := [some (.ref (A 0)), some (.int (nI t)), some (.int (nI l)), some (.ref (A (13 + 6 * t))), some (.int ((gM σ t) l))]) (st' := [.int ((gM σ t) l)]) (by decide +kernel) rfl ?_
      have hC3 := hC2.ymd (y := gy σ) (me := gme σ) (de := gde σ + gM σ t l) gs5 (fun q hq => gk5 q hq)
      exact V.reti hF (by decide +kernel) ⟨w1, w2, t, l, ht, hl, rfl, rfl, rfl, hC3, hk2.tr (kpC.one (i := 0) (by omega) (fun q hq => gk5 q hq))⟩
    · skip
      exact V.throwS hG hF hT kt_RX3_104 (by decide +kernel) (by decide +kernel) (by decide +kernel) (by decide +kernel) (by decide +kernel) ⟨by rw [hRm]; decide, by rw [hRm]; decide⟩ ⟨Or.inr (Or.inr ⟨rfl, w1, trivial, fun q => by rw [dy2, ct, cl] at q; exact tf_0 c2 q.2⟩), rfl⟩
  · skip
    exact V.throwS hG hF hT kt_RX3_99 (by decide +kernel) (by decide +kernel) (by decide +kernel) (by decide +kernel) (by decide +kernel) ⟨by rw [hRm]; decide, by rw [hRm]; decide⟩ ⟨Or.inr (Or.inr ⟨rfl, w1, trivial, fun q => by rw [dy2, ct, cl] at q; exact q.1 (tf_1 c1)⟩), rfl⟩
end Os
