/-! ===== TallyWax: pass, write, pay, deny ===== -/
section Or
variable {G : Gt} {h : Hp} {A : Nat → Nat} {σ : Sg} {P : PS} {r : Nat → Int32}
def sPass (σ : Sg) (n : Nat) : Sg := sYmd (yrN n σ) (gy σ + n) (gme σ + goN n σ) (gde σ)
set_option maxHeartbeats 4000000 in
theorem c_X3_pass (hG : GOk G) (hC : CS h A σ P r) (hy : gy σ < 2 ^ 29) (x : Int32) : Ct G yX3_pass (.code yX3_pass cX3_pass 4 (some .int)) 7 102 1 6 [.ref (A 0), .int x] h
    (fun v h' => ∃ n, n ≤ 40 ∧ x = nI n ∧ inY x ∧ v = some (.int (goN n σ)) ∧ CS h' A (sPass σ n) P r ∧ kpC h h' A (12 + 6 * gT σ)) (pxA (inY x) h) := by
  refine Ct.of (by decide +kernel) (Nat.le_of_ble_eq_true rfl) fun F hF hT hN hRm => ?_
  obtain ⟨hI, hT8, hA, h1, h2, h3, h4, h5, h6⟩ := id hC
  refine V.run hF [(.iload_n 1, 1, .null)] (pc' := 1) (L' := [some (.ref (A 0)), some (.int x), none, none]) (st' := [.int x]) (by decide +kernel) rfl ?_
  refine V.callS (As := [.int x]) (st := []) hG hF k_RX3_133 (by decide +kernel) (c_X3_checkYears hG x) rfl ⟨by rw [hRm]; decide, by rw [hRm]; decide⟩ (Nat.le_of_ble_eq_true rfl) rfl (fun v h1' hp => ?_) (fun E h9 hx => VX.out hF hT ⟨hx.1, hx.2.1, hx.2.2⟩)
  obtain ⟨hv, hx, he⟩ := hp
  rw [he, hv]
  show V G F _ _ _ 4 [some (.ref (A 0)), some (.int x), none, none] [] h
  obtain ⟨n, hn, rfl⟩ : ∃ n : Nat, n ≤ 40 ∧ x = nI n := by
    rcases pk_ix x (n := 41) (by decide) with q | q | ⟨j, hj, e⟩
    · exact absurd (Int32.lt_trans q (by decide)) hx.1
    · exact absurd (Int32.le_trans q hx.2) (by decide)
    · exact ⟨j, by omega, e⟩
  have loop : ∀ k, k ≤ n → ∀ h1 : Hp, CS h1 A (yrN k σ) P r → kpC h h1 A (12 + 6 * gT σ) → V G F (fin G F (fun v h' => ∃ n', n' ≤ 40 ∧ nI n = nI n' ∧ inY (nI n) ∧ v = some (.int (goN n' σ)) ∧ CS h' A (sPass σ n') P r ∧ kpC h h' A (12 + 6 * gT σ)) (pxA (inY (nI n)) h)) 0 0 8 [some (.ref (A 0)), some (.int (nI n)), some (.int (goN k σ)), some (.int (nI k))] [] h1 := by
    refine lp_up n fun k hk ih => ?_
    intro h1 hC1 hk1
    obtain ⟨-, -, gA, -⟩ := id hC1
    refine V.run hF [(.iload_n 3, 1, .null), (.iload_n 1, 1, .null)] (pc' := 10) (L' := [some (.ref (A 0)), some (.int (nI n)), some (.int (goN k σ)), some (.int (nI k))]) (st' := [.int (nI n), .int (nI k)]) (by decide +kernel) rfl ?_
    refine V.icmpN_ge (i := k) (j := n) hF (off := 16) (tgt := 26) (by decide +kernel) (by decide) (by omega) (by omega) (fun c1 => ?_) (fun c1 => ?_)
    · have e : k = n := by omega
      subst e
      refine V.run hF [(.aload_n 0, 1, .null), (.dup, 1, .null)] (pc' := 28) (L' := [some (.ref (A 0)), some (.int (nI k)), some (.int (goN k σ)), some (.int (nI k))]) (st' := [.ref (A 0), .ref (A 0)]) (by decide +kernel) rfl ?_
      refine V.getf hG hF k_RX3_140 (by decide +kernel) gA rfl ?_
      refine V.run hF [(.iload_n 2, 1, .null), (.iadd, 1, .null)] (pc' := 33) (L' := [some (.ref (A 0)), some (.int (nI k)), some (.int (goN k σ)), some (.int (nI k))]) (st' := [.int (gme (yrN k σ) + goN k σ), .ref (A 0)]) (by decide +kernel) rfl ?_
      refine V.putf hG hF k_RX3_140 (by decide +kernel) gA (fun C T N hc => by cases hc; exact ⟨rfl, .int, by decide +kernel, rfl, rfl⟩) (Nat.le_of_ble_eq_true rfl) ?_
      obtain ⟨h_2, gh2⟩ : ∃ z : Hp, z = hset h1 (A 0) (.inr (3, [.ref (A 1), .ref (A 2), .ref (A 3), .ref (A 4), .ref (A 5), .int (nI (gT (yrN k σ))), .int (nI (gy (yrN k σ))), .int (gme (yrN k σ) + goN k σ), .int (gde (yrN k σ))])) := ⟨_, rfl⟩
      refine V.hp gh2 ?_
      have gk2 : ∀ q : Nat, q ≠ (A 0) → h_2 q = h1 q := fun q hq => by rw [gh2]; exact hset_ne hq
      have gs2 : h_2 (A 0) = some (.inr (3, [.ref (A 1), .ref (A 2), .ref (A 3), .ref (A 4), .ref (A 5), .int (nI (gT (yrN k σ))), .int (nI (gy (yrN k σ))), .int (gme (yrN k σ) + goN k σ), .int (gde (yrN k σ))])) := by rw [gh2]; exact hset_eq
      refine V.run hF [(.iload_n 2, 1, .null)] (pc' := 37) (L' := [some (.ref (A 0)), some (.int (nI k)), some (.int (goN k σ)), some (.int (nI k))]) (st' := [.int (goN k σ)]) (by decide +kernel) rfl ?_
      have hC2 := hC1.ymd (y := gy (yrN k σ)) (me := gme (yrN k σ) + goN k σ) (de := gde (yrN k σ)) gs2 (fun q hq => gk2 q hq)
      rw [yrN_y, yrN_me, yrN_de] at hC2
      exact V.reti hF (by decide +kernel) ⟨k, hn, rfl, hx, rfl, hC2, hk1.tr (kpC.one (by omega) (fun q hq => gk2 q hq))⟩
    · skip
      refine V.run hF [(.iload_n 2, 1, .null), (.aload_n 0, 1, .null)] (pc' := 15) (L' := [some (.ref (A 0)), some (.int (nI n)), some (.int (goN k σ)), some (.int (nI k))]) (st' := [.ref (A 0), .int (goN k σ)]) (by decide +kernel) rfl ?_
      refine V.callV (As := []) (st := [.int (goN k σ)]) hG hF k_RX3_136 (by decide +kernel) (c_X3_passOneYear hG hC1 (by rw [yrN_y]; omega)) gA rfl rfl ⟨by rw [hRm]; decide, by rw [hRm]; decide⟩ (Nat.le_of_ble_eq_true rfl) rfl (fun v' h2 hp => ?_) (fun E h9 hx => hx.elim)
      obtain ⟨rfl, hC2, hk2⟩ := hp
      rw [yrN_T] at hk2
      show V G F _ _ _ 18 [some (.ref (A 0)), some (.int (nI n)), some (.int (goN k σ)), some (.int (nI k))] [.int (gon (yrN k σ) (gT (yrN k σ))), .int (goN k σ)] h2
      refine V.run hF [(.iadd, 1, .null), (.istore_n 2, 1, .null), (.iinc 3 1, 3, .int 1), (.goto (-15), 3, .null)] (pc' := 8) (L' := [some (.ref (A 0)), some (.int (nI n)), some (.int (goN k σ + gon (yrN k σ) (gT (yrN k σ)))), some (.int ((nI k) + 1))]) (st' := []) (by decide +kernel) rfl ?_
      rw [nI_1 k]
      have := ih c1 h2 hC2 (hk1.tr hk2)
      rw [show goN (k + 1) σ = goN k σ + gon (yrN k σ) (gT (yrN k σ)) by rw [yrN_T]; rfl] at this
      exact this
  refine V.run hF [(.iconst 0, 1, .int 0), (.istore_n 2, 1, .null), (.iconst 0, 1, .int (nI 0)), (.istore_n 3, 1, .null)] (pc' := 8) (L' := [some (.ref (A 0)), some (.int (nI n)), some (.int 0), some (.int (nI 0))]) (st' := []) (by decide +kernel) rfl ?_
  exact loop 0 (Nat.zero_le _) h hC kpC.rf
abbrev prs (σ : Sg) (x : Int32) : Prop := inP x ∧ ¬ gth σ x.toNatClampNeg = 0
abbrev px3 (c1 c2 c3 : Prop) (h : Hp) : String → Hp → Prop := fun E h' => ((E = eI ∧ ¬ c1) ∨ (E = eA ∧ c1 ∧ ¬ c2) ∨ (E = eS ∧ c1 ∧ c2 ∧ ¬ c3)) ∧ h' = h
abbrev wr1 (σ : Sg) (x d c w : Int32) : Prop := okT σ x ∧ inP d ∧ inP c ∧ inP w
abbrev wr2 (d c a w : Int32) : Prop := ¬ (d = c ∨ d = w ∨ c = w) ∧ ¬ a < 1 ∧ a ≤ 999
abbrev wr3 (σ : Sg) (x d c w : Int32) : Prop := gn σ x.toNatClampNeg < 12 ∧ prs σ d ∧ prs σ c ∧ prs σ w
def sWrite (σ : Sg) (t : Nat) (d c a w : Int32) : Sg := sTab σ t (gha σ t) (gce σ t) (gn σ t + 1) (upd (gDD σ t) (gn σ t) d) (upd (gC σ t) (gn σ t) c) (upd (gM σ t) (gn σ t) a) (upd (gW σ t) (gn σ t) w)
theorem tf_1 {b : Prop} [Decidable b] (h : ¬ tf b = 0) : b := Classical.byContradiction fun q => h (if_neg q)
theorem tf_0 {b : Prop} [Decidable b] (h : tf b = 0) : ¬ b := fun q => by
  rw [tf, if_pos q] at h; cases h
/-- the five cells of a tablet's lines change -/
theorem CS.ln {h' : Hp} (hC : CS h A σ P r) {t : Nat} (ht : t < gT σ) {n : Nat} {D C M W : Nat → Int32} (hL : LLc h' (A (13 + 6 * t)) (A (14 + 6 * t)) (A (15 + 6 * t)) (A (16 + 6 * t)) (A (17 + 6 * t)) D C M W n) (hn : n ≤ 12) (hk : kp5 h h' (A (13 + 6 * t)) (A (14 + 6 * t)) (A (15 + 6 * t)) (A (16 + 6 * t)) (A (17 + 6 * t))) :
    CS h' A (sTab σ t (gha σ t) (gce σ t) n D C M W) P r ∧ kpC h h' A (12 + 6 * gT σ) := by
  have n' : ∀ i, 13 + 6 * t ≤ i → i < 18 + 6 * t → A (12 + 6 * t) ≠ A i := fun i h1 h2 => hC.1.ne (by omega) (by omega) (by omega)
  exact ⟨hC.tab ht ((hk _ (n' _ (by omega) (by omega)) (n' _ (by omega) (by omega)) (n' _ (by omega) (by omega)) (n' _ (by omega) (by omega)) (n' _ (by omega) (by omega))).trans (hC.2.2.2.2.2.2.2.2 t ht).1) hL hn (fun q hq => hk q (hq _ (by omega) (by omega)) (hq _ (by omega) (by omega)) (hq _ (by omega) (by omega)) (hq _ (by omega) (by omega)) (hq _ (by omega) (by omega))),
    fun q hq => hk q (hq _ (by omega)) (hq _ (by omega)) (hq _ (by omega)) (hq _ (by omega)) (hq _ (by omega))⟩
set_option maxHeartbeats 8000000 in
theorem c_X3_write (hG : GOk G) (hC : CS h A σ P r) (x d c a w : Int32) : Ct G yX3_write (.code yX3_write cX3_write 8 (some .int)) 7 104 8 48 [.ref (A 0), .int x, .int d, .int c, .int a, .int w] h
    (fun v h' => wr1 σ x d c w ∧ wr2 d c a w ∧ wr3 σ x d c w ∧ ∃ t, t < gT σ ∧ x = nI t ∧ v = some (.int (nI (gn σ t))) ∧ CS h' A (sWrite σ t d c a w) P r ∧ kpC h h' A (12 + 6 * gT σ)) (px3 (wr1 σ x d c w) (wr2 d c a w) (wr3 σ x d c w) h) := by
  refine Ct.of (by decide +kernel) (Nat.le_of_ble_eq_true rfl) fun F hF hT hN hRm => ?_
  obtain ⟨hI, hT8, hA, h1, h2, h3, h4, h5, h6⟩ := id hC
  refine V.run hF [(.aload_n 0, 1, .null), (.iload_n 1, 1, .null)] (pc' := 2) (L' := [some (.ref (A 0)), some (.int x), some (.int d), some (.int c), some (.int a), some (.int w), none, none]) (st' := [.int x, .ref (A 0)]) (by decide +kernel) rfl ?_
  refine V.callV (As := [.int x]) (st := []) hG hF k_RX3_52 (by decide +kernel) (c_X3_tabletAt hG hC x) hA rfl rfl ⟨by rw [hRm]; decide, by rw [hRm]; decide⟩ (Nat.le_of_ble_eq_true rfl) rfl (fun v h1' hp => ?_) (fun E h9 hx => VX.out hF hT ⟨Or.inl ⟨hx.1, fun q => okT_no hT8 hx.2.1 q.1⟩, hx.2.2⟩)
  obtain ⟨⟨t, ht, rfl, rfl⟩, he⟩ := hp
  rw [he]
  obtain ⟨t1, t2, t3⟩ := h6 t ht
  show V G F _ _ _ 5 [some (.ref (A 0)), some (.int (nI t)), some (.int d), some (.int c), some (.int a), some (.int w), none, none] [.ref (A (12 + 6 * t))] h
  have hcl : (nI t).toNatClampNeg = t := nI_clamp (by omega)
  refine V.getf hG hF k_RX3_56 (by decide +kernel) t1 rfl ?_
  refine V.run hF [(.astore 6, 2, .null), (.iload_n 2, 1, .null)] (pc' := 11) (L' := [some (.ref (A 0)), some (.int (nI t)), some (.int d), some (.int c), some (.int a), some (.int w), some (.ref (A (13 + 6 * t))), none]) (st' := [.int d]) (by decide +kernel) rfl ?_
  refine V.callS (As := [.int d]) (st := []) hG hF k_RX3_60 (by decide +kernel) (c_X3_checkPerson hG d) rfl ⟨by rw [hRm]; decide, by rw [hRm]; decide⟩ (Nat.le_of_ble_eq_true rfl) rfl (fun v1 h1' hp => ?_) (fun E h9 hx => VX.out hF hT ⟨Or.inl ⟨hx.1, fun q => hx.2.1 q.2.1⟩, hx.2.2⟩)
  obtain ⟨hv, hd, he⟩ := hp
  rw [he, hv]
  show V G F _ _ _ 14 [some (.ref (A 0)), some (.int (nI t)), some (.int d), some (.int c), some (.int a), some (.int w), some (.ref (A (13 + 6 * t))), none] [] h
  refine V.run hF [(.iload_n 3, 1, .null)] (pc' := 15) (L' := [some (.ref (A 0)), some (.int (nI t)), some (.int d), some (.int c), some (.int a), some (.int w), some (.ref (A (13 + 6 * t))), none]) (st' := [.int c]) (by decide +kernel) rfl ?_
  refine V.callS (As := [.int c]) (st := []) hG hF k_RX3_60 (by decide +kernel) (c_X3_checkPerson hG c) rfl ⟨by rw [hRm]; decide, by rw [hRm]; decide⟩ (Nat.le_of_ble_eq_true rfl) rfl (fun v2 h1' hp => ?_) (fun E h9 hx => VX.out hF hT ⟨Or.inl ⟨hx.1, fun q => hx.2.1 q.2.2.1⟩, hx.2.2⟩)
  obtain ⟨hv, hc, he⟩ := hp
  rw [he, hv]
  show V G F _ _ _ 18 [some (.ref (A 0)), some (.int (nI t)), some (.int d), some (.int c), some (.int a), some (.int w), some (.ref (A (13 + 6 * t))), none] [] h
  refine V.run hF [(.iload 5, 2, .null)] (pc' := 20) (L' := [some (.ref (A 0)), some (.int (nI t)), some (.int d), some (.int c), some (.int a), some (.int w), some (.ref (A (13 + 6 * t))), none]) (st' := [.int w]) (by decide +kernel) rfl ?_
  refine V.callS (As := [.int w]) (st := []) hG hF k_RX3_60 (by decide +kernel) (c_X3_checkPerson hG w) rfl ⟨by rw [hRm]; decide, by rw [hRm]; decide⟩ (Nat.le_of_ble_eq_true rfl) rfl (fun v3 h1' hp => ?_) (fun E h9 hx => VX.out hF hT ⟨Or.inl ⟨hx.1, fun q => hx.2.1 q.2.2.2⟩, hx.2.2⟩)
  obtain ⟨hv, hw, he⟩ := hp
  rw [he, hv]
  show V G F _ _ _ 23 [some (.ref (A 0)), some (.int (nI t)), some (.int d), some (.int c), some (.int a), some (.int w), some (.ref (A (13 + 6 * t))), none] [] h
  have w1 : wr1 σ (nI t) d c w := ⟨⟨t, ht, rfl⟩, hd, hc, hw⟩
  refine V.run hF [(.iload_n 2, 1, .null), (.iload_n 3, 1, .null)] (pc' := 25) (L' := [some (.ref (A 0)), some (.int (nI t)), some (.int d), some (.int c), some (.int a), some (.int w), some (.ref (A (13 + 6 * t))), none]) (st' := [.int c, .int d]) (by decide +kernel) rfl ?_
  refine V.icmp_eq hF (off := 15) (tgt := 40) (by decide +kernel) (by decide) (fun c1 => ?_) (fun c1 => ?_)
  · skip
    exact V.throwS hG hF hT kt_RX3_63 (by decide +kernel) (by decide +kernel) (by decide +kernel) (by decide +kernel) (by decide +kernel) ⟨by rw [hRm]; decide, by rw [hRm]; decide⟩ ⟨Or.inr (Or.inl ⟨rfl, w1, fun q => q.1 (Or.inl c1)⟩), rfl⟩
  · skip
    refine V.run hF [(.iload_n 2, 1, .null), (.iload 5, 2, .null)] (pc' := 31) (L' := [some (.ref (A 0)), some (.int (nI t)), some (.int d), some (.int c), some (.int a), some (.int w), some (.ref (A (13 + 6 * t))), none]) (st' := [.int w, .int d]) (by decide +kernel) rfl ?_
    refine V.icmp_eq hF (off := 9) (tgt := 40) (by decide +kernel) (by decide) (fun c2 => ?_) (fun c2 => ?_)
    · skip
      exact V.throwS hG hF hT kt_RX3_63 (by decide +kernel) (by decide +kernel) (by decide +kernel) (by decide +kernel) (by decide +kernel) ⟨by rw [hRm]; decide, by rw [hRm]; decide⟩ ⟨Or.inr (Or.inl ⟨rfl, w1, fun q => q.1 (Or.inr (Or.inl c2))⟩), rfl⟩
    · skip
      refine V.run hF [(.iload_n 3, 1, .null), (.iload 5, 2, .null)] (pc' := 37) (L' := [some (.ref (A 0)), some (.int (nI t)), some (.int d), some (.int c), some (.int a), some (.int w), some (.ref (A (13 + 6 * t))), none]) (st' := [.int w, .int c]) (by decide +kernel) rfl ?_
      refine V.icmp_ne hF (off := 13) (tgt := 50) (by decide +kernel) (by decide) (fun c3 => ?_) (fun c3 => ?_)
      · skip
        refine V.run hF [(.iload 4, 2, .null), (.iconst 1, 1, .int 1)] (pc' := 53) (L' := [some (.ref (A 0)), some (.int (nI t)), some (.int d), some (.int c), some (.int a), some (.int w), some (.ref (A (13 + 6 * t))), none]) (st' := [.int 1, .int a]) (by decide +kernel) rfl ?_
        refine V.icmp_lt hF (off := 11) (tgt := 64) (by decide +kernel) (by decide) (fun c4 => ?_) (fun c4 => ?_)
        · skip
          exact V.throwS hG hF hT kt_RX3_65 (by decide +kernel) (by decide +kernel) (by decide +kernel) (by decide +kernel) (by decide +kernel) ⟨by rw [hRm]; decide, by rw [hRm]; decide⟩ ⟨Or.inr (Or.inl ⟨rfl, w1, fun q => q.2.1 c4⟩), rfl⟩
        · skip
          refine V.run hF [(.iload 4, 2, .null), (.sipush 999, 3, .int (nI 999))] (pc' := 61) (L' := [some (.ref (A 0)), some (.int (nI t)), some (.int d), some (.int c), some (.int a), some (.int w), some (.ref (A (13 + 6 * t))), none]) (st' := [.int (nI 999), .int a]) (by decide +kernel) rfl ?_
          refine V.icmp_le hF (off := 13) (tgt := 74) (by decide +kernel) (by decide) (fun c5 => ?_) (fun c5 => ?_)
          · have w2 : wr2 d c a w := ⟨fun q => by
              rcases q with q | q | q
              · exact c1 q
              · exact c2 q
              · exact c3 q, c4, c5⟩
            refine V.run hF [(.aload 6, 2, .null)] (pc' := 76) (L' := [some (.ref (A 0)), some (.int (nI t)), some (.int d), some (.int c), some (.int a), some (.int w), some (.ref (A (13 + 6 * t))), none]) (st' := [.ref (A (13 + 6 * t))]) (by decide +kernel) rfl ?_
            refine V.getf hG hF k_RX3_67 (by decide +kernel) t2.1 rfl ?_
            refine V.run hF [(.bipush 12, 2, .int (nI 12))] (pc' := 81) (L' := [some (.ref (A 0)), some (.int (nI t)), some (.int d), some (.int c), some (.int a), some (.int w), some (.ref (A (13 + 6 * t))), none]) (st' := [.int (nI 12), .int (nI (gn σ t))]) (by decide +kernel) rfl ?_
            refine V.icmpN_lt (i := gn σ t) (j := 12) hF (off := 13) (tgt := 94) (by decide +kernel) (by decide) (by omega) (by omega) (fun c6 => ?_) (fun c6 => ?_)
            · have g0 : gn σ (nI t).toNatClampNeg < 12 := by rw [hcl]; exact c6
              refine V.run hF [(.aload_n 0, 1, .null), (.iload_n 2, 1, .null)] (pc' := 96) (L' := [some (.ref (A 0)), some (.int (nI t)), some (.int d), some (.int c), some (.int a), some (.int w), some (.ref (A (13 + 6 * t))), none]) (st' := [.int d, .ref (A 0)]) (by decide +kernel) rfl ?_
              refine V.callV (As := [.int d]) (st := []) hG hF k_RX3_74 (by decide +kernel) (c_X3_isPresent hG hC d) hA rfl rfl ⟨by rw [hRm]; decide, by rw [hRm]; decide⟩ (Nat.le_of_ble_eq_true rfl) rfl (fun v h_5 gp5 => ?_) (fun E h9 hx => hx.elim)
              obtain ⟨rfl, he_gp5⟩ := gp5
              rw [he_gp5]
              show V G F _ _ _ 99 [some (.ref (A 0)), some (.int (nI t)), some (.int d), some (.int c), some (.int a), some (.int w), some (.ref (A (13 + 6 * t))), none] [.int (tf (prs σ d))] h
              refine V.if_eq hF (off := 20) (tgt := 119) (by decide +kernel) (by decide) (fun c7 => ?_) (fun c7 => ?_)
              · skip
                exact V.throwS hG hF hT kt_RX3_78 (by decide +kernel) (by decide +kernel) (by decide +kernel) (by decide +kernel) (by decide +kernel) ⟨by rw [hRm]; decide, by rw [hRm]; decide⟩ ⟨Or.inr (Or.inr ⟨rfl, w1, w2, fun q => tf_0 c7 q.2.1⟩), rfl⟩
              · skip
                refine V.run hF [(.aload_n 0, 1, .null), (.iload_n 3, 1, .null)] (pc' := 104) (L' := [some (.ref (A 0)), some (.int (nI t)), some (.int d), some (.int c), some (.int a), some (.int w), some (.ref (A (13 + 6 * t))), none]) (st' := [.int c, .ref (A 0)]) (by decide +kernel) rfl ?_
                refine V.callV (As := [.int c]) (st := []) hG hF k_RX3_74 (by decide +kernel) (c_X3_isPresent hG hC c) hA rfl rfl ⟨by rw [hRm]; decide, by rw [hRm]; decide⟩ (Nat.le_of_ble_eq_true rfl) rfl (fun v h_6 gp6 => ?_) (fun E h9 hx => hx.elim)
                obtain ⟨rfl, he_gp6⟩ := gp6
                rw [he_gp6]
                show V G F _ _ _ 107 [some (.ref (A 0)), some (.int (nI t)), some (.int d), some (.int c), some (.int a), some (.int w), some (.ref (A (13 + 6 * t))), none] [.int (tf (prs σ c))] h
                refine V.if_eq hF (off := 12) (tgt := 119) (by decide +kernel) (by decide) (fun c8 => ?_) (fun c8 => ?_)
                · skip
                  exact V.throwS hG hF hT kt_RX3_78 (by decide +kernel) (by decide +kernel) (by decide +kernel) (by decide +kernel) (by decide +kernel) ⟨by rw [hRm]; decide, by rw [hRm]; decide⟩ ⟨Or.inr (Or.inr ⟨rfl, w1, w2, fun q => tf_0 c8 q.2.2.1⟩), rfl⟩
                · skip
                  refine V.run hF [(.aload_n 0, 1, .null), (.iload 5, 2, .null)] (pc' := 113) (L' := [some (.ref (A 0)), some (.int (nI t)), some (.int d), some (.int c), some (.int a), some (.int w), some (.ref (A (13 + 6 * t))), none]) (st' := [.int w, .ref (A 0)]) (by decide +kernel) rfl ?_
                  refine V.callV (As := [.int w]) (st := []) hG hF k_RX3_74 (by decide +kernel) (c_X3_isPresent hG hC w) hA rfl rfl ⟨by rw [hRm]; decide, by rw [hRm]; decide⟩ (Nat.le_of_ble_eq_true rfl) rfl (fun v h_7 gp7 => ?_) (fun E h9 hx => hx.elim)
                  obtain ⟨rfl, he_gp7⟩ := gp7
                  rw [he_gp7]
                  show V G F _ _ _ 116 [some (.ref (A 0)), some (.int (nI t)), some (.int d), some (.int c), some (.int a), some (.int w), some (.ref (A (13 + 6 * t))), none] [.int (tf (prs σ w))] h
                  refine V.if_ne hF (off := 13) (tgt := 129) (by decide +kernel) (by decide) (fun c9 => ?_) (fun c9 => ?_)
                  · skip
                    refine V.run hF [(.aload 6, 2, .null)] (pc' := 131) (L' := [some (.ref (A 0)), some (.int (nI t)), some (.int d), some (.int c), some (.int a), some (.int w), some (.ref (A (13 + 6 * t))), none]) (st' := [.ref (A (13 + 6 * t))]) (by decide +kernel) rfl ?_
                    refine V.getf hG hF k_RX3_67 (by decide +kernel) t2.1 rfl ?_
                    refine V.run hF [(.istore 7, 2, .null), (.aload 6, 2, .null), (.iload_n 2, 1, .null), (.iload_n 3, 1, .null), (.iload 4, 2, .null), (.iload 5, 2, .null)] (pc' := 144) (L' := [some (.ref (A 0)), some (.int (nI t)), some (.int d), some (.int c), some (.int a), some (.int w), some (.ref (A (13 + 6 * t))), some (.int (nI (gn σ t)))]) (st' := [.int w, .int a, .int c, .int d, .ref (A (13 + 6 * t))]) (by decide +kernel) rfl ?_
                    refine V.callVN (As := [.int d, .int c, .int a, .int w]) (st := []) hG hF k_RX3_80 (by decide +kernel) (c_X0_append hG t2 (hC.nd4 ht) c6 d c a w) t2.1 rfl rfl ⟨by rw [hRm]; decide, by rw [hRm]; decide⟩ (Nat.le_of_ble_eq_true rfl) rfl (fun v4 h2 hp => ?_)
                    obtain ⟨hv, hL, hk⟩ := hp
                    rw [hv]
                    obtain ⟨hC2, hk2⟩ := hC.ln ht hL (by omega) hk
                    show V G F _ _ _ 147 [some (.ref (A 0)), some (.int (nI t)), some (.int d), some (.int c), some (.int a), some (.int w), some (.ref (A (13 + 6 * t))), some (.int (nI (gn σ t)))] [] h2
                    refine V.run hF [(.iload 7, 2, .null)] (pc' := 149) (L' := [some (.ref (A 0)), some (.int (nI t)), some (.int d), some (.int c), some (.int a), some (.int w), some (.ref (A (13 + 6 * t))), some (.int (nI (gn σ t)))]) (st' := [.int (nI (gn σ t))]) (by decide +kernel) rfl ?_
                    exact V.reti hF (by decide +kernel) ⟨w1, w2, ⟨g0, tf_1 c7, tf_1 c8, tf_1 c9⟩, t, ht, rfl, rfl, hC2, hk2⟩
                  · skip
                    exact V.throwS hG hF hT kt_RX3_78 (by decide +kernel) (by decide +kernel) (by decide +kernel) (by decide +kernel) (by decide +kernel) ⟨by rw [hRm]; decide, by rw [hRm]; decide⟩ ⟨Or.inr (Or.inr ⟨rfl, w1, w2, fun q => tf_0 c9 q.2.2.2⟩), rfl⟩
            · skip
              exact V.throwS hG hF hT kt_RX3_72 (by decide +kernel) (by decide +kernel) (by decide +kernel) (by decide +kernel) (by decide +kernel) ⟨by rw [hRm]; decide, by rw [hRm]; decide⟩ ⟨Or.inr (Or.inr ⟨rfl, w1, w2, fun q => absurd c6 (by have := q.1; rw [hcl] at this; omega)⟩), rfl⟩
          · skip
            exact V.throwS hG hF hT kt_RX3_65 (by decide +kernel) (by decide +kernel) (by decide +kernel) (by decide +kernel) (by decide +kernel) ⟨by rw [hRm]; decide, by rw [hRm]; decide⟩ ⟨Or.inr (Or.inl ⟨rfl, w1, fun q => c5 q.2.2⟩), rfl⟩
      · skip
        exact V.throwS hG hF hT kt_RX3_63 (by decide +kernel) (by decide +kernel) (by decide +kernel) (by decide +kernel) (by decide +kernel) ⟨by rw [hRm]; decide, by rw [hRm]; decide⟩ ⟨Or.inr (Or.inl ⟨rfl, w1, fun q => q.1 (Or.inr (Or.inr c3))⟩), rfl⟩
end Or
