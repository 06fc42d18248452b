/-! ===== TallyWaxModel: reach ===== -/
def orL (σ : Sg) (fr : Int32) (t : Nat) : Nat → Int32
  | 0 => 0
  | l + 1 => if (fr >>> (gDD σ t l &&& 31)) &&& 1 = 1 then orL σ fr t l ||| (1 <<< (gC σ t l &&& 31)) else orL σ fr t l
def orA (σ : Sg) (fr : Int32) : Nat → Int32
  | 0 => 0
  | t + 1 => orA σ fr t ||| orL σ fr t (gn σ t)
def frO (p : Nat) (its : Int32) : Int32 := its ||| (1 <<< (nI p &&& 31))
def stpR (σ : Sg) (p : Nat) (its : Int32) : Int32 := its ||| orA σ (frO p its) (gT σ)
def rit (σ : Sg) (p : Nat) : Nat → Int32
  | 0 => 0
  | k + 1 => stpR σ p (rit σ p k)
theorem rit_st {σ : Sg} {p k : Nat} (h : rit σ p (k + 1) = rit σ p k) : ∀ j, rit σ p (k + j) = rit σ p k
  | 0 => rfl
  | j + 1 => by
    show stpR σ p (rit σ p (k + j)) = _
    rw [rit_st h j]
    exact h
section Mv
variable {G : Gt} {h : Hp} {B : Nat → Nat} {σ : Sg} {x : Int32} {u : Mu} {md hs : Nat → Int32}
set_option maxHeartbeats 8000000 in
theorem c_X4_reach (hG : GOk G) (hM : MO h B σ x u md hs) (hR : RM σ u) {p K : Nat} (hp : p < 8) (hK : rit σ p (K + 1) = rit σ p K) : Ct G yX4_reach (.code yX4_reach cX4_reach 7 (some .int)) 2 46 0 0 [.ref (B 0), .int (nI p)] h (is_i (rit σ p K) h) pxN := by
  refine Ct.of (by decide +kernel) (Nat.le_of_ble_eq_true rfl) fun F hF hT hN hRm => ?_
  have h8 := hR.1
  have loop : ∀ j k, K + 1 - k ≤ j → k ≤ K + 1 → ∀ (bf : Int32) (z4 z5 z6 : Option Value), (k = 0 → bf = -1) → (∀ i, k = i + 1 → bf = rit σ p i) → V G F (fin G F (is_i (rit σ p K) h) pxN) 0 0 4 [some (.ref (B 0)), some (.int (nI p)), some (.int (rit σ p k)), some (.int bf), z4, z5, z6] [] h := by
    intro j
    induction j with
    | zero =>
      intro k hj hk bf z4 z5 z6 b0 b1
      refine V.loc (L' := [some (.ref (B 0)), some (.int (nI p)), some (.int (rit σ p k)), some (.int bf), none, none, none]) (fun j v hv => by
        match j, hv with
        | 0, hv => exact hv
        | 1, hv => exact hv
        | 2, hv => exact hv
        | 3, hv => exact hv
        | 4, hv => cases hv
        | 5, hv => cases hv
        | 6, hv => cases hv
        | q + 7, hv => cases hv) ?_
      refine V.run hF [(.iload_n 2, 1, .null), (.iload_n 3, 1, .null)] (pc' := 6) (L' := [some (.ref (B 0)), some (.int (nI p)), some (.int (rit σ p k)), some (.int bf), none, none, none]) (st' := [.int bf, .int (rit σ p k)]) (by decide +kernel) rfl ?_
      have ek : k = K + 1 := by omega
      have eb := b1 K ek
      have e : rit σ p k = bf := by rw [eb, ek, hK]
      refine V.icmp_eq hF (off := 86) (tgt := 92) (by decide +kernel) (by decide) (fun c1 => ?_) (fun c1 => ?_)
      · skip
        refine V.run hF [(.iload_n 2, 1, .null)] (pc' := 93) (L' := [some (.ref (B 0)), some (.int (nI p)), some (.int (rit σ p k)), some (.int bf), none, none, none]) (st' := [.int (rit σ p k)]) (by decide +kernel) rfl ?_
        exact V.reti hF (by decide +kernel) ⟨by rw [e, eb], rfl⟩
      · skip
        exact absurd e c1
    | succ j ih =>
      intro k hj hk bf z4 z5 z6 b0 b1
      refine V.loc (L' := [some (.ref (B 0)), some (.int (nI p)), some (.int (rit σ p k)), some (.int bf), none, none, none]) (fun j v hv => by
        match j, hv with
        | 0, hv => exact hv
        | 1, hv => exact hv
        | 2, hv => exact hv
        | 3, hv => exact hv
        | 4, hv => cases hv
        | 5, hv => cases hv
        | 6, hv => cases hv
        | q + 7, hv => cases hv) ?_
      obtain ⟨i0, ei0⟩ : ∃ i0, i0 = rit σ p k := ⟨_, rfl⟩
      rw [← ei0]
      refine V.run hF [(.iload_n 2, 1, .null), (.iload_n 3, 1, .null)] (pc' := 6) (L' := [some (.ref (B 0)), some (.int (nI p)), some (.int i0), some (.int bf), none, none, none]) (st' := [.int bf, .int i0]) (by decide +kernel) rfl ?_
      refine V.icmp_eq hF (off := 86) (tgt := 92) (by decide +kernel) (by decide) (fun c1 => ?_) (fun c1 => ?_)
      · skip
        refine V.run hF [(.iload_n 2, 1, .null)] (pc' := 93) (L' := [some (.ref (B 0)), some (.int (nI p)), some (.int i0), some (.int bf), none, none, none]) (st' := [.int i0]) (by decide +kernel) rfl ?_
        cases k with
        | zero => exact absurd (c1.trans (b0 rfl)) (by rw [ei0]; show ¬ (0 : Int32) = -1; decide)
        | succ i =>
          have e := b1 i rfl
          have st : rit σ p (i + 1) = rit σ p i := by rw [← ei0, c1, e]
          exact V.reti hF (by decide +kernel) ⟨by
            have := rit_st st (K - i)
            rw [show i + (K - i) = K by omega] at this
            rw [c1, e, this], rfl⟩
      · skip
        have kK : k ≤ K := Nat.le_of_not_lt (fun q => c1 (by
          have : k = K + 1 := by omega
          rw [ei0, b1 K this, this, hK]))
        refine V.run hF [(.iload_n 2, 1, .null), (.istore_n 3, 1, .null), (.iload_n 2, 1, .null), (.iconst 1, 1, .int 1), (.iload_n 1, 1, .null), (.ishl, 1, .null), (.ior, 1, .null)] (pc' := 16) (L' := [some (.ref (B 0)), some (.int (nI p)), some (.int i0), some (.int i0), none, none, none]) (st' := [.int (i0 ||| (1 <<< ((nI p) &&& 31)))]) (by decide +kernel) rfl ?_
        obtain ⟨fr, efr⟩ : ∃ fr, fr = frO p i0 := ⟨_, rfl⟩
        rw [show i0 ||| (1 <<< (nI p &&& 31)) = fr from efr.symm]
        refine V.run hF [(.istore 4, 2, .null), (.iconst 0, 1, .int (nI 0)), (.istore 5, 2, .null)] (pc' := 21) (L' := [some (.ref (B 0)), some (.int (nI p)), some (.int i0), some (.int i0), some (.int fr), some (.int (nI 0)), none]) (st' := []) (by decide +kernel) rfl ?_
        have ls : ∀ t, t ≤ gT σ → ∀ z6, V G F (fin G F (is_i (rit σ p K) h) pxN) 0 0 21 [some (.ref (B 0)), some (.int (nI p)), some (.int (i0 ||| orA σ fr t)), some (.int i0), some (.int fr), some (.int (nI t)), z6] [] h := by
          refine lp_up (gT σ) fun t ht ih2 => ?_
          intro z6
          refine V.loc (L' := [some (.ref (B 0)), some (.int (nI p)), some (.int (i0 ||| orA σ fr t)), some (.int i0), some (.int fr), some (.int (nI t)), none]) (fun j v hv => by
            match j, hv with
            | 0, hv => exact hv
            | 1, hv => exact hv
            | 2, hv => exact hv
            | 3, hv => exact hv
            | 4, hv => exact hv
            | 5, hv => exact hv
            | 6, hv => cases hv
            | q + 7, hv => cases hv) ?_
          refine V.run hF [(.iload 5, 2, .null), (.aload_n 0, 1, .null)] (pc' := 24) (L' := [some (.ref (B 0)), some (.int (nI p)), some (.int (i0 ||| orA σ fr t)), some (.int i0), some (.int fr), some (.int (nI t)), none]) (st' := [.ref (B 0), .int (nI t)]) (by decide +kernel) rfl ?_
          refine V.getf hG hF k_RX4_43 (by decide +kernel) hM.2.1 rfl ?_
          refine V.icmpN_ge (i := t) (j := gT σ) hF (off := 62) (tgt := 89) (by decide +kernel) (by decide) (by omega) (by omega) (fun c2 => ?_) (fun c2 => ?_)
          · have e : t = gT σ := by omega
            refine V.run hF [(.goto (-85), 3, .null)] (pc' := 4) (L' := [some (.ref (B 0)), some (.int (nI p)), some (.int (i0 ||| orA σ fr t)), some (.int i0), some (.int fr), some (.int (nI t)), none]) (st' := []) (by decide +kernel) rfl ?_
            have := ih (k + 1) (by omega) (by omega) i0 (some (.int fr)) (some (.int (nI t))) none (fun q => absurd q (by omega)) (fun i hi => by rw [ei0]; exact congrArg (rit σ p) (by omega))
            rw [show rit σ p (k + 1) = i0 ||| orA σ fr t by rw [e, efr, ei0]; rfl] at this
            exact this
          · skip
            have c2 : t < gT σ := by omega
            obtain ⟨e1, e2, e3⟩ := hR.mn c2
            refine V.run hF [(.iconst 0, 1, .int (nI 0)), (.istore 6, 2, .null)] (pc' := 33) (L' := [some (.ref (B 0)), some (.int (nI p)), some (.int (i0 ||| orA σ fr t)), some (.int i0), some (.int fr), some (.int (nI t)), some (.int (nI 0))]) (st' := []) (by decide +kernel) rfl ?_
            have lt : ∀ l, l ≤ gn σ t → V G F (fin G F (is_i (rit σ p K) h) pxN) 0 0 33 [some (.ref (B 0)), some (.int (nI p)), some (.int (i0 ||| (orA σ fr t ||| orL σ fr t l))), some (.int i0), some (.int fr), some (.int (nI t)), some (.int (nI l))] [] h := by
              refine lp_up (gn σ t) fun l hl ih3 => ?_
              refine V.run hF [(.iload 6, 2, .null), (.aload_n 0, 1, .null)] (pc' := 36) (L' := [some (.ref (B 0)), some (.int (nI p)), some (.int (i0 ||| (orA σ fr t ||| orL σ fr t l))), some (.int i0), some (.int fr), some (.int (nI t)), some (.int (nI l))]) (st' := [.ref (B 0), .int (nI l)]) (by decide +kernel) rfl ?_
              refine V.getf hG hF k_RX4_21 (by decide +kernel) hM.2.1 rfl ?_
              refine V.run hF [(.iload 5, 2, .null)] (pc' := 41) (L' := [some (.ref (B 0)), some (.int (nI p)), some (.int (i0 ||| (orA σ fr t ||| orL σ fr t l))), some (.int i0), some (.int fr), some (.int (nI t)), some (.int (nI l))]) (st' := [.int (nI t), .ref (B 3), .int (nI l)]) (by decide +kernel) rfl ?_
              refine V.ialdN (j := t) hG hF (by decide +kernel) hM.2.2.2.2.1 (by omega) (by decide) ?_
              rw [e2]
              refine V.icmpN_ge (i := l) (j := gn σ t) hF (off := 41) (tgt := 83) (by decide +kernel) (by decide) (by omega) (by omega) (fun c3 => ?_) (fun c3 => ?_)
              · have e : l = gn σ t := by omega
                rw [e]
                refine V.run hF [(.iinc 5 1, 3, .int 1), (.goto (-65), 3, .null)] (pc' := 21) (L' := [some (.ref (B 0)), some (.int (nI p)), some (.int (i0 ||| (orA σ fr t ||| orL σ fr t (gn σ t)))), some (.int i0), some (.int fr), some (.int ((nI t) + 1)), some (.int (nI (gn σ t)))]) (st' := []) (by decide +kernel) rfl ?_
                rw [nI_1 t]
                exact ih2 c2 _
              · skip
                have c3 : l < gn σ t := by omega
                refine V.run hF [(.iload 4, 2, .null), (.aload_n 0, 1, .null), (.iload 5, 2, .null), (.iload 6, 2, .null), (.iconst 0, 1, .int 0)] (pc' := 53) (L' := [some (.ref (B 0)), some (.int (nI p)), some (.int (i0 ||| (orA σ fr t ||| orL σ fr t l))), some (.int i0), some (.int fr), some (.int (nI t)), some (.int (nI l))]) (st' := [.int 0, .int (nI l), .int (nI t), .ref (B 0), .int fr]) (by decide +kernel) rfl ?_
                refine V.callV (As := [.int (nI t), .int (nI l), .int 0]) (st := [.int fr]) hG hF k_RX4_60 (by decide +kernel) (c_X4_ofD hG hM hR c2 c3) hM.2.1 rfl rfl ⟨by rw [hRm]; decide, by rw [hRm]; decide⟩ (Nat.le_of_ble_eq_true rfl) rfl (fun v h_1 gp1 => ?_) (fun E h9 hx => hx.elim)
                obtain ⟨rfl, he_gp1⟩ := gp1
                rw [he_gp1]
                show V G F _ _ _ 56 [some (.ref (B 0)), some (.int (nI p)), some (.int (i0 ||| (orA σ fr t ||| orL σ fr t l))), some (.int i0), some (.int fr), some (.int (nI t)), some (.int (nI l))] [.int (gDD σ t l), .int fr] h
                refine V.run hF [(.ishr, 1, .null), (.iconst 1, 1, .int 1), (.iand, 1, .null), (.iconst 1, 1, .int 1)] (pc' := 60) (L' := [some (.ref (B 0)), some (.int (nI p)), some (.int (i0 ||| (orA σ fr t ||| orL σ fr t l))), some (.int i0), some (.int fr), some (.int (nI t)), some (.int (nI l))]) (st' := [.int 1, .int ((fr >>> ((gDD σ t l) &&& 31)) &&& 1)]) (by decide +kernel) rfl ?_
                refine V.icmp_ne hF (off := 17) (tgt := 77) (by decide +kernel) (by decide) (fun c4 => ?_) (fun c4 => ?_)
                · skip
                  refine V.run hF [(.iinc 6 1, 3, .int 1), (.goto (-47), 3, .null)] (pc' := 33) (L' := [some (.ref (B 0)), some (.int (nI p)), some (.int (i0 ||| (orA σ fr t ||| orL σ fr t l))), some (.int i0), some (.int fr), some (.int (nI t)), some (.int ((nI l) + 1))]) (st' := []) (by decide +kernel) rfl ?_
                  rw [nI_1 l]
                  have := ih3 c3
                  rw [orL, if_neg c4] at this
                  exact this
                · skip
                  refine V.run hF [(.iload_n 2, 1, .null), (.iconst 1, 1, .int 1), (.aload_n 0, 1, .null), (.iload 5, 2, .null), (.iload 6, 2, .null), (.iconst 1, 1, .int 1)] (pc' := 71) (L' := [some (.ref (B 0)), some (.int (nI p)), some (.int (i0 ||| (orA σ fr t ||| orL σ fr t l))), some (.int i0), some (.int fr), some (.int (nI t)), some (.int (nI l))]) (st' := [.int 1, .int (nI l), .int (nI t), .ref (B 0), .int 1, .int (i0 ||| (orA σ fr t ||| orL σ fr t l))]) (by decide +kernel) rfl ?_
                  refine V.callV (As := [.int (nI t), .int (nI l), .int 1]) (st := [.int 1, .int (i0 ||| (orA σ fr t ||| orL σ fr t l))]) hG hF k_RX4_60 (by decide +kernel) (c_X4_ofC hG hM hR c2 c3) hM.2.1 rfl rfl ⟨by rw [hRm]; decide, by rw [hRm]; decide⟩ (Nat.le_of_ble_eq_true rfl) rfl (fun v h_2 gp2 => ?_) (fun E h9 hx => hx.elim)
                  obtain ⟨rfl, he_gp2⟩ := gp2
                  rw [he_gp2]
                  show V G F _ _ _ 74 [some (.ref (B 0)), some (.int (nI p)), some (.int (i0 ||| (orA σ fr t ||| orL σ fr t l))), some (.int i0), some (.int fr), some (.int (nI t)), some (.int (nI l))] [.int (gC σ t l), .int 1, .int (i0 ||| (orA σ fr t ||| orL σ fr t l))] h
                  refine V.run hF [(.ishl, 1, .null), (.ior, 1, .null), (.istore_n 2, 1, .null), (.iinc 6 1, 3, .int 1), (.goto (-47), 3, .null)] (pc' := 33) (L' := [some (.ref (B 0)), some (.int (nI p)), some (.int ((i0 ||| (orA σ fr t ||| orL σ fr t l)) ||| (1 <<< ((gC σ t l) &&& 31)))), some (.int i0), some (.int fr), some (.int (nI t)), some (.int ((nI l) + 1))]) (st' := []) (by decide +kernel) rfl ?_
                  rw [nI_1 l]
                  have := ih3 c3
                  rw [orL, if_pos c4, ← Int32.or_assoc, ← Int32.or_assoc, Int32.or_assoc i0] at this
                  exact this
            have := lt 0 (Nat.zero_le _)
            rw [orL, Int32.or_zero] at this
            exact this
        have := ls 0 (Nat.zero_le _) none
        rw [orA, Int32.or_zero] at this
        exact this
  refine V.run hF [(.iconst 0, 1, .int 0), (.istore_n 2, 1, .null), (.iconst (-1), 1, .int (-1)), (.istore_n 3, 1, .null)] (pc' := 4) (L' := [some (.ref (B 0)), some (.int (nI p)), some (.int 0), some (.int (-1)), none, none, none]) (st' := []) (by decide +kernel) rfl ?_
  exact loop (K + 1) 0 (by omega) (by omega) (-1) none none none (fun _ => rfl) (fun i hi => absurd hi (by omega))
abbrev RST (σ : Sg) : Prop := ∀ p, p < 8 → rit σ p (8 + 1) = rit σ p 8
def cntB (its : Int32) (p : Nat) : Nat → Int32
  | 0 => 0
  | q + 1 => cntB its p q + (if ¬ q = p ∧ (its >>> (nI q &&& 31)) &&& 1 = 1 then 1 else 0)
def rdB (σ : Sg) : Nat → Nat → Int32
  | 0, _ => 0
  | f + 1, i => if (rit σ i 8 >>> (nI i &&& 31)) &&& 1 = 1 then 1 else rdB σ f (i + 1)
theorem rdB01 (σ : Sg) : ∀ f i, b01 (rdB σ f i)
  | 0, _ => Or.inl rfl
  | f + 1, i => by
    unfold rdB
    split
    · exact Or.inr rfl
    · exact rdB01 σ f (i + 1)
abbrev alB (σ : Sg) (p : Nat) : Int32 := cntB (rit σ p 8) p 8
set_option maxHeartbeats 4000000 in
theorem c_X4_along (hG : GOk G) (hM : MO h B σ x u md hs) (hR : RM σ u) (hK : RST σ) {p : Nat} (hp : p < 8) : Ct G yX4_along (.code yX4_along cX4_along 5 (some .int)) 3 72 0 0 [.ref (B 0), .int (nI p)] h (is_i (alB σ p) h) pxN := by
  refine Ct.of (by decide +kernel) (Nat.le_of_ble_eq_true rfl) fun F hF hT hN hRm => ?_
  have h8 := hR.1
  refine V.run hF [(.iconst 0, 1, .int 0), (.istore_n 2, 1, .null), (.aload_n 0, 1, .null), (.iload_n 1, 1, .null)] (pc' := 4) (L' := [some (.ref (B 0)), some (.int (nI p)), some (.int 0), none, none]) (st' := [.int (nI p), .ref (B 0)]) (by decide +kernel) rfl ?_
  refine V.callV (As := [.int (nI p)]) (st := []) hG hF k_RX4_138 (by decide +kernel) (c_X4_reach hG hM hR hp (hK p hp)) hM.2.1 rfl rfl ⟨by rw [hRm]; decide, by rw [hRm]; decide⟩ (Nat.le_of_ble_eq_true rfl) rfl (fun v h_1 gp1 => ?_) (fun E h9 hx => hx.elim)
  obtain ⟨rfl, he_gp1⟩ := gp1
  rw [he_gp1]
  show V G F _ _ _ 7 [some (.ref (B 0)), some (.int (nI p)), some (.int 0), none, none] [.int (rit σ p 8)] h
  refine V.run hF [(.istore_n 3, 1, .null), (.iconst 0, 1, .int (nI 0)), (.istore 4, 2, .null)] (pc' := 11) (L' := [some (.ref (B 0)), some (.int (nI p)), some (.int 0), some (.int (rit σ p 8)), some (.int (nI 0))]) (st' := []) (by decide +kernel) rfl ?_
  have loop : ∀ q, q ≤ 8 → V G F (fin G F (is_i (alB σ p) h) pxN) 0 0 11 [some (.ref (B 0)), some (.int (nI p)), some (.int (cntB (rit σ p 8) p q)), some (.int (rit σ p 8)), some (.int (nI q))] [] h := by
    refine lp_up 8 fun q hq ih => ?_
    have nx : ∀ y : Int32, y = (if ¬ q = p ∧ (rit σ p 8 >>> (nI q &&& 31)) &&& 1 = 1 then 1 else 0) → cntB (rit σ p 8) p q + y = cntB (rit σ p 8) p (q + 1) := fun y e => by rw [e, cntB]
    refine V.run hF [(.iload 4, 2, .null), (.bipush 8, 2, .int (nI 8))] (pc' := 15) (L' := [some (.ref (B 0)), some (.int (nI p)), some (.int (cntB (rit σ p 8) p q)), some (.int (rit σ p 8)), some (.int (nI q))]) (st' := [.int (nI 8), .int (nI q)]) (by decide +kernel) rfl ?_
    refine V.icmpN_ge (i := q) (j := 8) hF (off := 33) (tgt := 48) (by decide +kernel) (by decide) (by omega) (by omega) (fun c1 => ?_) (fun c1 => ?_)
    · have e : q = 8 := by omega
      rw [e]
      refine V.run hF [(.iload_n 2, 1, .null)] (pc' := 49) (L' := [some (.ref (B 0)), some (.int (nI p)), some (.int (cntB (rit σ p 8) p 8)), some (.int (rit σ p 8)), some (.int (nI 8))]) (st' := [.int (cntB (rit σ p 8) p 8)]) (by decide +kernel) rfl ?_
      exact V.reti hF (by decide +kernel) ⟨rfl, rfl⟩
    · skip
      refine V.run hF [(.iload_n 2, 1, .null), (.iload 4, 2, .null), (.iload_n 1, 1, .null)] (pc' := 22) (L' := [some (.ref (B 0)), some (.int (nI p)), some (.int (cntB (rit σ p 8) p q)), some (.int (rit σ p 8)), some (.int (nI q))]) (st' := [.int (nI p), .int (nI q), .int (cntB (rit σ p 8) p q)]) (by decide +kernel) rfl ?_
      refine V.icmpN_eq (i := q) (j := p) hF (off := 17) (tgt := 39) (by decide +kernel) (by decide) (by omega) (by omega) (fun c2 => ?_) (fun c2 => ?_)
      · skip
        refine V.run hF [(.iconst 0, 1, .int 0), (.iadd, 1, .null), (.istore_n 2, 1, .null), (.iinc 4 1, 3, .int 1), (.goto (-34), 3, .null)] (pc' := 11) (L' := [some (.ref (B 0)), some (.int (nI p)), some (.int (cntB (rit σ p 8) p q + 0)), some (.int (rit σ p 8)), some (.int ((nI q) + 1))]) (st' := []) (by decide +kernel) rfl ?_
        rw [nI_1 q]
        have := ih c1
        rw [← nx 0 (by rw [if_neg (fun z => z.1 c2)])] at this
        exact this
      · skip
        refine V.run hF [(.iload_n 3, 1, .null), (.iload 4, 2, .null), (.ishr, 1, .null), (.iconst 1, 1, .int 1), (.iand, 1, .null), (.iconst 1, 1, .int 1)] (pc' := 32) (L' := [some (.ref (B 0)), some (.int (nI p)), some (.int (cntB (rit σ p 8) p q)), some (.int (rit σ p 8)), some (.int (nI q))]) (st' := [.int 1, .int (((rit σ p 8) >>> ((nI q) &&& 31)) &&& 1), .int (cntB (rit σ p 8) p q)]) (by decide +kernel) rfl ?_
        refine V.icmp_ne hF (off := 7) (tgt := 39) (by decide +kernel) (by decide) (fun c3 => ?_) (fun c3 => ?_)
        · skip
          refine V.run hF [(.iconst 0, 1, .int 0), (.iadd, 1, .null), (.istore_n 2, 1, .null), (.iinc 4 1, 3, .int 1), (.goto (-34), 3, .null)] (pc' := 11) (L' := [some (.ref (B 0)), some (.int (nI p)), some (.int (cntB (rit σ p 8) p q + 0)), some (.int (rit σ p 8)), some (.int ((nI q) + 1))]) (st' := []) (by decide +kernel) rfl ?_
          rw [nI_1 q]
          have := ih c1
          rw [← nx 0 (by rw [if_neg (fun z => c3 z.2)])] at this
          exact this
        · skip
          refine V.run hF [(.iconst 1, 1, .int 1), (.goto 4, 3, .null), (.iadd, 1, .null), (.istore_n 2, 1, .null), (.iinc 4 1, 3, .int 1), (.goto (-34), 3, .null)] (pc' := 11) (L' := [some (.ref (B 0)), some (.int (nI p)), some (.int (cntB (rit σ p 8) p q + 1)), some (.int (rit σ p 8)), some (.int ((nI q) + 1))]) (st' := []) (by decide +kernel) rfl ?_
          rw [nI_1 q]
          have := ih c1
          rw [← nx 1 (by rw [if_pos ⟨c2, c3⟩])] at this
          exact this
  exact loop 0 (Nat.zero_le _)
set_option maxHeartbeats 4000000 in
theorem c_X4_owesAlong (hG : GOk G) (hM : MO h B σ x u md hs) (hR : RM σ u) (hK : RST σ) (v : Int32) : Ct G yX4_owesAlong (.code yX4_owesAlong cX4_owesAlong 2 (some .int)) 4 96 0 0 [.ref (B 0), .int v] h (mq B σ u h (inP v) (alB σ v.toNatClampNeg)) pxN := by
  refine Ct.of (by decide +kernel) (Nat.le_of_ble_eq_true rfl) fun F hF hT hN hRm => ?_
  have h8 := hR.1
  refine V.run hF [(.aload_n 0, 1, .null), (.iconst 0, 1, .int 0)] (pc' := 2) (L' := [some (.ref (B 0)), some (.int v)]) (st' := [.int 0, .ref (B 0)]) (by decide +kernel) rfl ?_
  refine V.putf hG hF k_RX4_36 (by decide +kernel) hM.2.1 (fun C T N hc => by cases hc; exact ⟨rfl, .int, by decide +kernel, rfl, rfl⟩) (Nat.le_of_ble_eq_true rfl) ?_
  obtain ⟨h_1, gh1⟩ : ∃ z : Hp, z = hset h (B 0) (.inr (4, [.int 0, .int (uth u), .int (nI (gT σ)), .ref (B 1), .ref (B 2), .ref (B 3), .ref (B 4), .ref (B 5), .int (nI (gy σ)), .int (gme σ), .int (gde σ), .ref (B 6), .ref (B 7)])) := ⟨_, rfl⟩
  refine V.hp gh1 ?_
  have gk1 : ∀ q : Nat, q ≠ (B 0) → h_1 q = h q := fun q hq => by rw [gh1]; exact hset_ne hq
  have gs1 : h_1 (B 0) = some (.inr (4, [.int 0, .int (uth u), .int (nI (gT σ)), .ref (B 1), .ref (B 2), .ref (B 3), .ref (B 4), .ref (B 5), .int (nI (gy σ)), .int (gme σ), .int (gde σ), .ref (B 6), .ref (B 7)])) := by rw [gh1]; exact hset_eq
  have hM1 := hM.th gs1 (fun q hq => gk1 q hq)
  have hk1 : kpB h h_1 B := kpB.one (i := 0) (by omega) (fun q hq => gk1 q hq)
  obtain ⟨h1, eh1⟩ : ∃ z, z = h_1 := ⟨_, rfl⟩
  rw [← eh1] at hM1 hk1 ⊢
  refine V.run hF [(.iload_n 1, 1, .null)] (pc' := 6) (L' := [some (.ref (B 0)), some (.int v)]) (st' := [.int v]) (by decide +kernel) rfl ?_
  refine V.callS (As := [.int v]) (st := []) hG hF k_RX4_90 (by decide +kernel) (c_X4_isPerson hG v) rfl ⟨by rw [hRm]; decide, by rw [hRm]; decide⟩ (Nat.le_of_ble_eq_true rfl) rfl (fun v h_2 gp2 => ?_) (fun E h9 hx => hx.elim)
  obtain ⟨rfl, he_gp2⟩ := gp2
  rw [he_gp2]
  show V G F _ _ _ 9 [some (.ref (B 0)), some (.int v)] [.int (tf (inP v))] h1
  refine V.if_eq hF (off := 11) (tgt := 20) (by decide +kernel) (by decide) (fun c1 => ?_) (fun c1 => ?_)
  · skip
    refine V.run hF [(.aload_n 0, 1, .null), (.iconst 1, 1, .int 1)] (pc' := 22) (L' := [some (.ref (B 0)), some (.int v)]) (st' := [.int 1, .ref (B 0)]) (by decide +kernel) rfl ?_
    refine V.callV (As := [.int 1]) (st := []) hG hF k_RX4_86 (by decide +kernel) (c_X4_fail hG hM1 1) hM1.2.1 rfl rfl ⟨by rw [hRm]; decide, by rw [hRm]; decide⟩ (Nat.le_of_ble_eq_true rfl) rfl (fun v h2 hp => ?_) (fun E h9 hx => hx.elim)
    obtain ⟨rfl, hM2, hk2⟩ := hp
    show V G F _ _ _ 25 [some (.ref (B 0)), some (.int v)] [.int 0] h2
    exact V.reti hF (by decide +kernel) ⟨1, 0, rfl, Or.inr ⟨tf_0 c1, rfl⟩, _, _, hM2, hk1.tr hk2⟩
  · skip
    obtain ⟨p, hp8, rfl⟩ := inP_of (tf_1 c1)
    have ep : (nI p).toNatClampNeg = p := nI_clamp (by omega)
    refine V.run hF [(.aload_n 0, 1, .null), (.iload_n 1, 1, .null)] (pc' := 14) (L' := [some (.ref (B 0)), some (.int (nI p))]) (st' := [.int (nI p), .ref (B 0)]) (by decide +kernel) rfl ?_
    refine V.callV (As := [.int (nI p)]) (st := []) hG hF k_RX4_141 (by decide +kernel) (c_X4_along hG hM1 hR hK hp8) hM1.2.1 rfl rfl ⟨by rw [hRm]; decide, by rw [hRm]; decide⟩ (Nat.le_of_ble_eq_true rfl) rfl (fun v h_4 gp4 => ?_) (fun E h9 hx => hx.elim)
    obtain ⟨rfl, he_gp4⟩ := gp4
    rw [he_gp4]
    show V G F _ _ _ 17 [some (.ref (B 0)), some (.int (nI p))] [.int (alB σ p)] h1
    refine V.run hF [(.goto 8, 3, .null)] (pc' := 25) (L' := [some (.ref (B 0)), some (.int (nI p))]) (st' := [.int (alB σ p)]) (by decide +kernel) rfl ?_
    exact V.reti hF (by decide +kernel) ⟨0, _, rfl, Or.inl ⟨tf_1 c1, rfl, by rw [ep]⟩, _, _, hM1, hk1⟩
set_option maxHeartbeats 4000000 in
theorem c_X4_round (hG : GOk G) (hM : MO h B σ x u md hs) (hR : RM σ u) (hK : RST σ) : Ct G yX4_round (.code yX4_round cX4_round 2 (some .boolean)) 3 72 0 0 [.ref (B 0)] h (is_i (rdB σ 8 0) h) pxN := by
  refine Ct.of (by decide +kernel) (Nat.le_of_ble_eq_true rfl) fun F hF hT hN hRm => ?_
  have h8 := hR.1
  refine V.run hF [(.iconst 0, 1, .int (nI 0)), (.istore_n 1, 1, .null)] (pc' := 2) (L' := [some (.ref (B 0)), some (.int (nI 0))]) (st' := []) (by decide +kernel) rfl ?_
  have loop : ∀ i, i ≤ 8 → V G F (fin G F (is_i (rdB σ (8 - i) i) h) pxN) 0 0 2 [some (.ref (B 0)), some (.int (nI i))] [] h := by
    refine lp_up 8 fun i hi ih => ?_
    refine V.run hF [(.iload_n 1, 1, .null), (.bipush 8, 2, .int (nI 8))] (pc' := 5) (L' := [some (.ref (B 0)), some (.int (nI i))]) (st' := [.int (nI 8), .int (nI i)]) (by decide +kernel) rfl ?_
    refine V.icmpN_ge (i := i) (j := 8) hF (off := 24) (tgt := 29) (by decide +kernel) (by decide) (by omega) (by omega) (fun c1 => ?_) (fun c1 => ?_)
    · have ei : i = 8 := by omega
      refine V.run hF [(.iconst 0, 1, .int 0)] (pc' := 30) (L' := [some (.ref (B 0)), some (.int (nI i))]) (st' := [.int 0]) (by decide +kernel) rfl ?_
      exact V.retz hF (by decide +kernel) rfl ⟨by rw [ei]; rfl, rfl⟩
    · skip
      have e8 : 8 - i = (8 - (i + 1)) + 1 := by omega
      refine V.run hF [(.aload_n 0, 1, .null), (.iload_n 1, 1, .null)] (pc' := 10) (L' := [some (.ref (B 0)), some (.int (nI i))]) (st' := [.int (nI i), .ref (B 0)]) (by decide +kernel) rfl ?_
      refine V.callV (As := [.int (nI i)]) (st := []) hG hF k_RX4_138 (by decide +kernel) (c_X4_reach hG hM hR c1 (hK i c1)) hM.2.1 rfl rfl ⟨by rw [hRm]; decide, by rw [hRm]; decide⟩ (Nat.le_of_ble_eq_true rfl) rfl (fun v h_1 gp1 => ?_) (fun E h9 hx => hx.elim)
      obtain ⟨rfl, he_gp1⟩ := gp1
      rw [he_gp1]
      show V G F _ _ _ 13 [some (.ref (B 0)), some (.int (nI i))] [.int (rit σ i 8)] h
      refine V.run hF [(.iload_n 1, 1, .null), (.ishr, 1, .null), (.iconst 1, 1, .int 1), (.iand, 1, .null), (.iconst 1, 1, .int 1)] (pc' := 18) (L' := [some (.ref (B 0)), some (.int (nI i))]) (st' := [.int 1, .int (((rit σ i 8) >>> ((nI i) &&& 31)) &&& 1)]) (by decide +kernel) rfl ?_
      refine V.icmp_ne hF (off := 5) (tgt := 23) (by decide +kernel) (by decide) (fun c2 => ?_) (fun c2 => ?_)
      · skip
        refine V.run hF [(.iinc 1 1, 3, .int 1), (.goto (-24), 3, .null)] (pc' := 2) (L' := [some (.ref (B 0)), some (.int ((nI i) + 1))]) (st' := []) (by decide +kernel) rfl ?_
        rw [nI_1 i]
        rw [e8, rdB, if_neg c2]
        exact ih c1
      · skip
        refine V.run hF [(.iconst 1, 1, .int 1)] (pc' := 22) (L' := [some (.ref (B 0)), some (.int (nI i))]) (st' := [.int 1]) (by decide +kernel) rfl ?_
        exact V.retz hF (by decide +kernel) rfl ⟨by rw [e8, rdB, if_pos c2], rfl⟩
  exact loop 0 (Nat.zero_le _)
set_option maxHeartbeats 4000000 in
theorem c_X4_isRound (hG : GOk G) (hM : MO h B σ x u md hs) (hR : RM σ u) (hK : RST σ) : Ct G yX4_isRound (.code yX4_isRound cX4_isRound 1 (some .boolean)) 4 93 0 0 [.ref (B 0)] h (an0 B σ u h (rdB σ 8 0)) pxN := by
  refine Ct.of (by decide +kernel) (Nat.le_of_ble_eq_true rfl) fun F hF hT hN hRm => ?_
  have h8 := hR.1
  refine V.run hF [(.aload_n 0, 1, .null), (.iconst 0, 1, .int 0)] (pc' := 2) (L' := [some (.ref (B 0))]) (st' := [.int 0, .ref (B 0)]) (by decide +kernel) rfl ?_
  refine V.putf hG hF k_RX4_36 (by decide +kernel) hM.2.1 (fun C T N hc => by cases hc; exact ⟨rfl, .int, by decide +kernel, rfl, rfl⟩) (Nat.le_of_ble_eq_true rfl) ?_
  obtain ⟨h_1, gh1⟩ : ∃ z : Hp, z = hset h (B 0) (.inr (4, [.int 0, .int (uth u), .int (nI (gT σ)), .ref (B 1), .ref (B 2), .ref (B 3), .ref (B 4), .ref (B 5), .int (nI (gy σ)), .int (gme σ), .int (gde σ), .ref (B 6), .ref (B 7)])) := ⟨_, rfl⟩
  refine V.hp gh1 ?_
  have gk1 : ∀ q : Nat, q ≠ (B 0) → h_1 q = h q := fun q hq => by rw [gh1]; exact hset_ne hq
  have gs1 : h_1 (B 0) = some (.inr (4, [.int 0, .int (uth u), .int (nI (gT σ)), .ref (B 1), .ref (B 2), .ref (B 3), .ref (B 4), .ref (B 5), .int (nI (gy σ)), .int (gme σ), .int (gde σ), .ref (B 6), .ref (B 7)])) := by rw [gh1]; exact hset_eq
  have hM1 := hM.th gs1 (fun q hq => gk1 q hq)
  have hk1 : kpB h h_1 B := kpB.one (i := 0) (by omega) (fun q hq => gk1 q hq)
  obtain ⟨h1, eh1⟩ : ∃ z, z = h_1 := ⟨_, rfl⟩
  rw [← eh1] at hM1 hk1 ⊢
  refine V.run hF [(.aload_n 0, 1, .null)] (pc' := 6) (L' := [some (.ref (B 0))]) (st' := [.ref (B 0)]) (by decide +kernel) rfl ?_
  refine V.callV (As := []) (st := []) hG hF k_RX4_144 (by decide +kernel) (c_X4_round hG hM1 hR hK) hM1.2.1 rfl rfl ⟨by rw [hRm]; decide, by rw [hRm]; decide⟩ (Nat.le_of_ble_eq_true rfl) rfl (fun v h_2 gp2 => ?_) (fun E h9 hx => hx.elim)
  obtain ⟨rfl, he_gp2⟩ := gp2
  rw [he_gp2]
  show V G F _ _ _ 9 [some (.ref (B 0))] [.int (rdB σ 8 0)] h1
  exact V.retz hF (by decide +kernel) (nz (rdB01 σ 8 0)) ⟨rfl, _, _, hM1, hk1⟩
end Mv