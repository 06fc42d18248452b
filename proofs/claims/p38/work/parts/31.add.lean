/-! ===== TallyWax: addTablet ===== -/
def sAdd (σ : Sg) (x : Int32) : Sg := (gth σ, gT σ + 1, va_up (gha σ) (gT σ) x, va_up (gce σ) (gT σ) 0, va_up (gn σ) (gT σ) 0, (va_up (gDD σ) (gT σ) (fun _ => 0), va_up (gC σ) (gT σ) (fun _ => 0), va_up (gM σ) (gT σ) (fun _ => 0), va_up (gW σ) (gT σ) (fun _ => 0)), ghe σ, gy σ, gme σ, gde σ)
def ex6 (A : Nat → Nat) (K : Nat) (L : List Nat) : Nat → Nat := fun i => if i < K then A i else li12 L (i - K)
theorem ex6_lt {A : Nat → Nat} {K i : Nat} {L : List Nat} (h : i < K) : ex6 A K L i = A i := if_pos h
theorem ex6_ge {A : Nat → Nat} {K j : Nat} {L : List Nat} : ex6 A K L (j + K) = li12 L j := by
  rw [ex6, if_neg (by omega), Nat.add_sub_cancel]
section Iz
variable {G : Gt} {h : Hp} {A : Nat → Nat} {σ : Sg} {P : PS} {r : Nat → Int32}
theorem CS.live (hC : CS h A σ P r) {i : Nat} (hi : i < 12 + 6 * gT σ) : ∃ c, h (A i) = some c := by
  obtain ⟨hI, hT8, hA, h1, h2, h3, ⟨s1, s2, s3, s4, s5, s6, s7⟩, h5, h6⟩ := hC
  by_cases q : i < 12
  · have : i = 0 ∨ i = 1 ∨ i = 2 ∨ i = 3 ∨ i = 4 ∨ i = 5 ∨ i = 6 ∨ i = 7 ∨ i = 8 ∨ i = 9 ∨ i = 10 ∨ i = 11 := by omega
    rcases this with rfl | rfl | rfl | rfl | rfl | rfl | rfl | rfl | rfl | rfl | rfl | rfl <;> exact ⟨_, by assumption⟩
  · obtain ⟨t, ht⟩ : ∃ t, t = (i - 12) / 6 := ⟨_, rfl⟩
    have ht' : t < gT σ := by omega
    obtain ⟨t1, ⟨t2, t3, t4, t5, t6⟩, -⟩ := h6 t ht'
    have : i = 12 + 6 * t ∨ i = 13 + 6 * t ∨ i = 14 + 6 * t ∨ i = 15 + 6 * t ∨ i = 16 + 6 * t ∨ i = 17 + 6 * t := by omega
    rcases this with e | e | e | e | e | e <;> rw [e] <;> exact ⟨_, by assumption⟩
theorem CS.exA (hC : CS h A σ P r) {A' : Nat → Nat} (e : ∀ i, i < 12 + 6 * gT σ → A' i = A i) : CS h A' σ P r := by
  obtain ⟨hI, hT8, hA, h1, h2, h3, h4, h5, h6⟩ := hC
  have es : shf A' (gT σ) = shf A (gT σ) := by
    funext t
    by_cases ht : t < gT σ
    · rw [shf_in ht, shf_in ht, e _ (by omega)]
    · rw [shf_out ht, shf_out ht]
  refine ⟨fun i j hi hj q => hI i j hi hj (by rw [← e i hi, ← e j hj]; exact q), hT8, ?_, ?_, ?_, ?_, ?_, ?_, fun t ht => ?_⟩
  · rw [e 0 (by omega), e 1 (by omega), e 2 (by omega), e 3 (by omega), e 4 (by omega), e 5 (by omega)]; exact hA
  · rw [e 1 (by omega)]; exact h1
  · rw [e 2 (by omega), es]; exact h2
  · rw [e 3 (by omega)]; exact h3
  · rw [e 4 (by omega), e 6 (by omega), e 7 (by omega), e 8 (by omega), e 9 (by omega), e 10 (by omega), e 11 (by omega)]; exact h4
  · rw [e 5 (by omega)]; exact h5
  · have ht : t < gT σ := ht
    have := h6 t ht
    unfold TBc at this ⊢
    rw [e (12 + 6 * t) (by omega), e (13 + 6 * t) (by omega), e (14 + 6 * t) (by omega), e (15 + 6 * t) (by omega), e (16 + 6 * t) (by omega), e (17 + 6 * t) (by omega)]
    exact this
theorem CS.add {h' : Hp} (hC : CS h A σ P r) (hT : gT σ < 8) {x : Int32} (hI' : Inj A (12 + 6 * (gT σ + 1)))
    (g0 : h' (A 0) = some (.inr (3, [.ref (A 1), .ref (A 2), .ref (A 3), .ref (A 4), .ref (A 5), .int (nI (gT σ + 1)), .int (nI (gy σ)), .int (gme σ), .int (gde σ)])))
    (g2 : h' (A 2) = some (.inl (3, 8, .inr (.inr (.inr (.inr (shf A (gT σ + 1))))))))
    (g1 : h' (A (12 + 6 * gT σ)) = some (.inr (2, [.int x, .int 0, .ref (A (13 + 6 * gT σ))])))
    (gL : LLc h' (A (13 + 6 * gT σ)) (A (14 + 6 * gT σ)) (A (15 + 6 * gT σ)) (A (16 + 6 * gT σ)) (A (17 + 6 * gT σ)) (fun _ => 0) (fun _ => 0) (fun _ => 0) (fun _ => 0) 0)
    (hk : ∀ i, i < 12 + 6 * gT σ → i ≠ 0 → i ≠ 2 → h' (A i) = h (A i)) : CS h' A (sAdd σ x) P r := by
  obtain ⟨hI, hT8, hA, h1, h2, h3, h4, h5, h6⟩ := id hC
  refine ⟨hI', hT, g0, (hk 1 (by omega) (by omega) (by omega)).trans h1, g2, (hk 3 (by omega) (by omega) (by omega)).trans h3, SMc.mv h4 (fun i e1 e2 e3 => hk i (by omega) (by omega) (by omega)), (hk 5 (by omega) (by omega) (by omega)).trans h5, fun t ht => ?_⟩
  by_cases e : t = gT σ
  · unfold TBc sAdd
    simp only [gha, gce, gn, gDD, gC, gM, gW, gT]
    rw [e]
    simp only [vu_s]
    exact ⟨g1, gL, Nat.zero_le _⟩
  · have ht' : t < gT σ := by
      have : t < gT σ + 1 := ht
      omega
    have := hC.tb (h' := h') ht' (fun i q1 q2 => hk i (by omega) (by omega) (by omega))
    unfold TBc sAdd
    simp only [gha, gce, gn, gDD, gC, gM, gW, vu_n e]
    exact this
abbrev inHa (x : Int32) : Prop := ¬ x < 1 ∧ x ≤ 9
set_option maxHeartbeats 8000000 in
theorem c_X3_addTablet (hG : GOk G) (hC : CS h A σ P r) (x : Int32) : Ct G yX3_addTablet (.code yX3_addTablet cX3_addTablet 3 (some .int)) 6 82 6 56 [.ref (A 0), .int x] h
    (fun v h' => inHa x ∧ gT σ < 8 ∧ v = some (.int (nI (gT σ))) ∧ ∃ A', (∀ i, i < 12 + 6 * gT σ → A' i = A i) ∧ (∀ i, 12 + 6 * gT σ ≤ i → i < 18 + 6 * gT σ → h (A' i) = none) ∧ CS h' A' (sAdd σ x) P r ∧ kpC h h' A' (18 + 6 * gT σ))
    (fun E h' => ((E = eA ∧ ¬ inHa x) ∨ (E = eS ∧ inHa x ∧ ¬ gT σ < 8)) ∧ h' = h) := by
  refine Ct.of (by decide +kernel) (Nat.le_of_ble_eq_true rfl) fun F hF hT hN hRm => ?_
  obtain ⟨hI, hT8, hA, h1, h2, h3, h4, h5, h6⟩ := id hC
  refine V.run hF [(.iload_n 1, 1, .null), (.iconst 1, 1, .int 1)] (pc' := 2) (L' := [some (.ref (A 0)), some (.int x), none]) (st' := [.int 1, .int x]) (by decide +kernel) rfl ?_
  refine V.icmp_lt hF (off := 9) (tgt := 11) (by decide +kernel) (by decide) (fun c1 => ?_) (fun c1 => ?_)
  · skip
    exact V.throwS hG hF hT kt_RX3_35 (by decide +kernel) (by decide +kernel) (by decide +kernel) (by decide +kernel) (by decide +kernel) ⟨by rw [hRm]; decide, by rw [hRm]; decide⟩ ⟨Or.inl ⟨rfl, fun q => q.1 c1⟩, rfl⟩
  · skip
    refine V.run hF [(.iload_n 1, 1, .null), (.bipush 9, 2, .int (nI 9))] (pc' := 8) (L' := [some (.ref (A 0)), some (.int x), none]) (st' := [.int (nI 9), .int x]) (by decide +kernel) rfl ?_
    refine V.icmp_le hF (off := 13) (tgt := 21) (by decide +kernel) (by decide) (fun c2 => ?_) (fun c2 => ?_)
    · skip
      refine V.run hF [(.aload_n 0, 1, .null)] (pc' := 22) (L' := [some (.ref (A 0)), some (.int x), none]) (st' := [.ref (A 0)]) (by decide +kernel) rfl ?_
      refine V.getf hG hF k_RX3_40 (by decide +kernel) hA rfl ?_
      refine V.run hF [(.istore_n 2, 1, .null), (.iload_n 2, 1, .null)] (pc' := 27) (L' := [some (.ref (A 0)), some (.int x), some (.int (nI (gT σ)))]) (st' := [.int (nI (gT σ))]) (by decide +kernel) rfl ?_
      refine V.if_lt hF (off := 9) (tgt := 36) (by decide +kernel) (by decide) (fun c3 => ?_) (fun c3 => ?_)
      · exact absurd c3 (nI_pos (by omega))
      · skip
        refine V.run hF [(.iload_n 2, 1, .null), (.bipush 8, 2, .int (nI 8))] (pc' := 33) (L' := [some (.ref (A 0)), some (.int x), some (.int (nI (gT σ)))]) (st' := [.int (nI 8), .int (nI (gT σ))]) (by decide +kernel) rfl ?_
        refine V.icmpN_lt (i := gT σ) (j := 8) hF (off := 13) (tgt := 46) (by decide +kernel) (by decide) (by omega) (by omega) (fun c4 => ?_) (fun c4 => ?_)
        · skip
          refine V.run hF [(.aload_n 0, 1, .null)] (pc' := 47) (L' := [some (.ref (A 0)), some (.int x), some (.int (nI (gT σ)))]) (st' := [.ref (A 0)]) (by decide +kernel) rfl ?_
          refine V.getf hG hF k_RX3_15 (by decide +kernel) hA rfl ?_
          refine V.run hF [(.iload_n 2, 1, .null)] (pc' := 51) (L' := [some (.ref (A 0)), some (.int x), some (.int (nI (gT σ)))]) (st' := [.int (nI (gT σ)), .ref (A 2)]) (by decide +kernel) rfl ?_
          refine V.new hG hF k_RX3_13 (by decide +kernel) (fun y hq_y => ?_)
          have ne_A0_y : (A 0) ≠ y := ne_new hA hq_y
          obtain ⟨h_1, gh1⟩ : ∃ z : Hp, z = hset h y (.inr (2, [.int 0, .int 0, .null])) := ⟨_, rfl⟩
          refine V.hp gh1 ?_
          have gk1 : ∀ q : Nat, q ≠ y → h_1 q = h q := fun q hq => by rw [gh1]; exact hset_ne hq
          have gs1 : h_1 y = some (.inr (2, [.int 0, .int 0, .null])) := by rw [gh1]; exact hset_eq
          have k1 := gk1
          have gq := gs1
          refine V.run hF [(.dup, 1, .null), (.iload_n 1, 1, .null)] (pc' := 56) (L' := [some (.ref (A 0)), some (.int x), some (.int (nI (gT σ)))]) (st' := [.int x, .ref y, .ref y, .int (nI (gT σ)), .ref (A 2)]) (by decide +kernel) rfl ?_
          refine V.callI (As := [.int x]) (st := [.ref y, .int (nI (gT σ)), .ref (A 2)]) hG hF k_RX3_49 (by decide +kernel) (c_X2_init hG gq) rfl ⟨by rw [hRm]; decide, by rw [hRm]; decide⟩ (Nat.le_of_ble_eq_true rfl) rfl (fun v h2' hp => ?_)
          obtain ⟨hv, l, d, c, m, w, q1, hLL, hnd, ⟨f1, f2, f3, f4, f5⟩, hk⟩ := hp
          rw [hv]
          have hll := hLL.nd hnd
          have lv1 : ∀ i, i < 12 + 6 * gT σ → A i ≠ y := fun i hi => by
            obtain ⟨z, hz⟩ := hC.live hi
            exact ne_new hz hq_y
          have lv : ∀ i, i < 12 + 6 * gT σ → ∀ z, h_1 z = none → A i ≠ z := fun i hi z hz => by
            obtain ⟨z', hz'⟩ := hC.live hi
            exact ne_new ((k1 (A i) (lv1 i hi)).trans hz') hz
          have yn : ∀ z, h_1 z = none → y ≠ z := fun z hz => ne_new gq hz
          have up : ∀ z, h_1 z = none → h z = none := fun z hz => by
            rw [← k1 z (Ne.symm (yn z hz))]; exact hz
          have kp : ∀ i, i < 12 + 6 * gT σ → h2' (A i) = h (A i) := fun i hi => (hk (A i) (lv1 i hi) (lv i hi l f1) (lv i hi d f2) (lv i hi c f3) (lv i hi m f4) (lv i hi w f5)).trans (k1 (A i) (lv1 i hi))
          have hA2 := (kp 0 (by omega)).trans hA
          have hS2 := (kp 2 (by omega)).trans h2
          obtain ⟨B, hB⟩ : ∃ B : Nat → Nat, B = ex6 A (12 + 6 * gT σ) [y, l, d, c, m, w] := ⟨_, rfl⟩
          have bl : ∀ i, i < 12 + 6 * gT σ → B i = A i := fun i hi => by rw [hB]; exact ex6_lt hi
          have b0 : B (12 + 6 * gT σ) = y := by rw [hB, ex6, if_neg (Nat.lt_irrefl _), Nat.sub_self]; rfl
          have b1 : B (13 + 6 * gT σ) = l := by rw [hB, show 13 + 6 * gT σ = 1 + (12 + 6 * gT σ) by omega, ex6_ge]; rfl
          have b2 : B (14 + 6 * gT σ) = d := by rw [hB, show 14 + 6 * gT σ = 2 + (12 + 6 * gT σ) by omega, ex6_ge]; rfl
          have b3 : B (15 + 6 * gT σ) = c := by rw [hB, show 15 + 6 * gT σ = 3 + (12 + 6 * gT σ) by omega, ex6_ge]; rfl
          have b4 : B (16 + 6 * gT σ) = m := by rw [hB, show 16 + 6 * gT σ = 4 + (12 + 6 * gT σ) by omega, ex6_ge]; rfl
          have b5 : B (17 + 6 * gT σ) = w := by rw [hB, show 17 + 6 * gT σ = 5 + (12 + 6 * gT σ) by omega, ex6_ge]; rfl
          have nod : List.Nodup [y, l, d, c, m, w] := by
            obtain ⟨⟨l1, l2, l3, l4⟩, l5, l6, l7, l8, l9, l10⟩ := hll
            have y1 := yn l f1
            have y2 := yn d f2
            have y3 := yn c f3
            have y4 := yn m f4
            have y5 := yn w f5
            simp only [List.nodup_cons, List.mem_cons, not_or, List.not_mem_nil, not_false_eq_true, List.nodup_nil, and_true]
            and_intros <;> first | assumption | exact Ne.symm (by assumption)
          have fr : ∀ i, 12 + 6 * gT σ ≤ i → i < 18 + 6 * gT σ → h (B i) = none ∧ ∃ j, j < 6 ∧ i = j + (12 + 6 * gT σ) ∧ B i = li12 [y, l, d, c, m, w] j := fun i i1 i2 => by
            have : i = 12 + 6 * gT σ ∨ i = 13 + 6 * gT σ ∨ i = 14 + 6 * gT σ ∨ i = 15 + 6 * gT σ ∨ i = 16 + 6 * gT σ ∨ i = 17 + 6 * gT σ := by omega
            rcases this with e | e | e | e | e | e <;> rw [e]
            · exact ⟨by rw [b0]; exact hq_y, 0, by decide, by omega, b0⟩
            · exact ⟨by rw [b1]; exact up l f1, 1, by decide, by omega, b1⟩
            · exact ⟨by rw [b2]; exact up d f2, 2, by decide, by omega, b2⟩
            · exact ⟨by rw [b3]; exact up c f3, 3, by decide, by omega, b3⟩
            · exact ⟨by rw [b4]; exact up m f4, 4, by decide, by omega, b4⟩
            · exact ⟨by rw [b5]; exact up w f5, 5, by decide, by omega, b5⟩
          have hIB : Inj B (12 + 6 * (gT σ + 1)) := by
            intro i j hi hj e
            by_cases ci : i < 12 + 6 * gT σ
            · by_cases cj : j < 12 + 6 * gT σ
              · rw [bl i ci, bl j cj] at e
                exact hI i j ci cj e
              · obtain ⟨z, hz⟩ := hC.live ci
                exact absurd ((bl i ci).symm.trans e) (ne_new hz (fr j (by omega) (by omega)).1)
            · by_cases cj : j < 12 + 6 * gT σ
              · obtain ⟨z, hz⟩ := hC.live cj
                exact absurd ((bl j cj).symm.trans e.symm) (ne_new hz (fr i (by omega) (by omega)).1)
              · obtain ⟨-, i1, i2, i3, i4⟩ := fr i (by omega) (by omega)
                obtain ⟨-, j1, j2, j3, j4⟩ := fr j (by omega) (by omega)
                have := li_inj nod i1 j1 i2 j2 (by rw [← i4, ← j4]; exact e)
                omega
          have hsh : va_up (shf A (gT σ)) (nI (gT σ)).toNatClampNeg (some y) = shf B (gT σ + 1) := by
            rw [nI_clamp (by omega)]
            funext t
            by_cases e : t = gT σ
            · rw [e, vu_s, shf_in (by omega), b0]
            · rw [vu_n e]
              by_cases e2 : t < gT σ
              · rw [shf_in e2, shf_in (by omega), bl _ (by omega)]
              · rw [shf_out e2, shf_out (by omega)]
          refine V.aast (ci := 2) hG hF (by decide +kernel) hS2 q1 rfl (vp_in_nI c4 (by decide)) ?_
          rw [hsh]
          obtain ⟨h9, gh9⟩ : ∃ z : Hp, z = hset h2' (A 2) (.inl (3, 8, .inr (.inr (.inr (.inr (shf B (gT σ + 1))))))) := ⟨_, rfl⟩
          refine V.hp gh9 ?_
          have k9 : ∀ q : Nat, q ≠ A 2 → h9 q = h2' q := fun q hq => by rw [gh9]; exact hset_ne hq
          have g9 : h9 (A 2) = some (.inl (3, 8, .inr (.inr (.inr (.inr (shf B (gT σ + 1))))))) := by rw [gh9]; exact hset_eq
          have hA3 := (k9 (A 0) (hI.ne (by omega) (by omega) (by omega))).trans hA2
          refine V.run hF [(.aload_n 0, 1, .null), (.iload_n 2, 1, .null), (.iconst 1, 1, .int 1), (.iadd, 1, .null)] (pc' := 64) (L' := [some (.ref (A 0)), some (.int x), some (.int (nI (gT σ)))]) (st' := [.int (nI (gT σ) + 1), .ref (A 0)]) (by decide +kernel) rfl ?_
          rw [nI_1 (gT σ)]
          refine V.putf hG hF k_RX3_40 (by decide +kernel) hA3 (fun C T N hc => by cases hc; exact ⟨rfl, .int, by decide +kernel, rfl, rfl⟩) (Nat.le_of_ble_eq_true rfl) ?_
          obtain ⟨h_3, gh3⟩ : ∃ z : Hp, z = hset h9 (A 0) (.inr (3, [.ref (A 1), .ref (A 2), .ref (A 3), .ref (A 4), .ref (A 5), .int (nI (gT σ + 1)), .int (nI (gy σ)), .int (gme σ), .int (gde σ)])) := ⟨_, rfl⟩
          refine V.hp gh3 ?_
          have gk3 : ∀ q : Nat, q ≠ (A 0) → h_3 q = h9 q := fun q hq => by rw [gh3]; exact hset_ne hq
          have gs3 : h_3 (A 0) = some (.inr (3, [.ref (A 1), .ref (A 2), .ref (A 3), .ref (A 4), .ref (A 5), .int (nI (gT σ + 1)), .int (nI (gy σ)), .int (gme σ), .int (gde σ)])) := by rw [gh3]; exact hset_eq
          refine V.run hF [(.iload_n 2, 1, .null)] (pc' := 68) (L' := [some (.ref (A 0)), some (.int x), some (.int (nI (gT σ)))]) (st' := [.int (nI (gT σ))]) (by decide +kernel) rfl ?_
          have kz := gk3
          have gz := gs3
          have n0 : ∀ z, h_1 z = none → z ≠ A 0 ∧ z ≠ A 2 := fun z hz => ⟨Ne.symm (lv 0 (by omega) z hz), Ne.symm (lv 2 (by omega) z hz)⟩
          have y0 : y ≠ A 0 ∧ y ≠ A 2 := ⟨Ne.symm (lv1 0 (by omega)), Ne.symm (lv1 2 (by omega))⟩
          have T : ∀ z, z ≠ A 0 → z ≠ A 2 → h_3 z = h2' z := fun z e1 e2 => (kz z e1).trans (k9 z e2)
          have hLL2 : LLc h_3 l d c m w (fun _ => 0) (fun _ => 0) (fun _ => 0) (fun _ => 0) 0 := hLL.mv (fun z hz => by
            have : h_1 z = none := by
              simp only [List.mem_cons, List.not_mem_nil, or_false] at hz
              rcases hz with rfl | rfl | rfl | rfl | rfl <;> assumption
            exact T z (n0 z this).1 (n0 z this).2)
          have hCB := hC.exA (A' := B) bl
          have hC2 : CS h_3 B (sAdd σ x) P r := hCB.add c4 hIB (by rw [bl 0 (by omega), bl 1 (by omega), bl 2 (by omega), bl 3 (by omega), bl 4 (by omega), bl 5 (by omega)]; exact gz)
            (by rw [bl 2 (by omega)]; exact (kz (A 2) (hI.ne (by omega) (by omega) (by omega))).trans g9)
            (by rw [b0, b1]; exact (T y y0.1 y0.2).trans q1)
            (by rw [b1, b2, b3, b4, b5]; exact hLL2)
            (fun i i1 i2 i3 => by rw [bl i i1]; exact (T (A i) (hI.ne i1 (by omega) i2) (hI.ne i1 (by omega) i3)).trans (kp i i1))
          have hkp : kpC h h_3 B (18 + 6 * gT σ) := fun q hq => by
            have e0 := hq 0 (by omega)
            have e2 := hq 2 (by omega)
            rw [bl 0 (by omega)] at e0
            rw [bl 2 (by omega)] at e2
            have ey := hq (12 + 6 * gT σ) (by omega)
            have el := hq (13 + 6 * gT σ) (by omega)
            have ed := hq (14 + 6 * gT σ) (by omega)
            have ec := hq (15 + 6 * gT σ) (by omega)
            have em := hq (16 + 6 * gT σ) (by omega)
            have ew := hq (17 + 6 * gT σ) (by omega)
            rw [b0] at ey
            rw [b1] at el
            rw [b2] at ed
            rw [b3] at ec
            rw [b4] at em
            rw [b5] at ew
            exact (T q e0 e2).trans ((hk q ey el ed ec em ew).trans (k1 q ey))
          exact V.reti hF (by decide +kernel) ⟨⟨c1, c2⟩, c4, rfl, B, bl, fun i i1 i2 => (fr i i1 i2).1, hC2, hkp⟩
        · skip
          exact V.throwS hG hF hT kt_RX3_46 (by decide +kernel) (by decide +kernel) (by decide +kernel) (by decide +kernel) (by decide +kernel) ⟨by rw [hRm]; decide, by rw [hRm]; decide⟩ ⟨Or.inr ⟨rfl, ⟨c1, c2⟩, fun q => absurd c4 (by omega)⟩, rfl⟩
    · skip
      exact V.throwS hG hF hT kt_RX3_35 (by decide +kernel) (by decide +kernel) (by decide +kernel) (by decide +kernel) (by decide +kernel) ⟨by rw [hRm]; decide, by rw [hRm]; decide⟩ ⟨Or.inl ⟨rfl, fun q => c2 q.2⟩, rfl⟩
end Iz
