/-! ===== Sim's total; the grid of who owes whom ===== -/
/-- the grid at og: rows og + 1 + d -/
def OG (h : Hp) (og : Nat) (val : Nat → Nat → Int32) : Prop := (∃ g : Nat → Option Nat, h og = some (.inl (2, 8, .inr (.inr (.inr (.inr g))))) ∧ ∀ d, d < 8 → g d = some (og + 1 + d)) ∧ ∀ d, d < 8 → ∃ f : Nat → Int32, h (og + 1 + d) = some (.inl (0, 8, .inl f)) ∧ ∀ c, c < 8 → f c = val d c
theorem OG.ex {h h' : Hp} {og : Nat} {val : Nat → Nat → Int32} (o : OG h og val) (e : Ex h h') : OG h' og val := by
  obtain ⟨⟨g, e1, e2⟩, e3⟩ := o
  refine ⟨⟨g, e _ _ e1, e2⟩, fun d hd => ?_⟩
  obtain ⟨f, f1, f2⟩ := e3 d hd
  exact ⟨f, e _ _ f1, f2⟩
theorem OG.exw {h h' : Hp} {og w : Nat} {val : Nat → Nat → Int32} (o : OG h og val) (e : Exw w h h') (h1 : og ≠ w) (h2 : ∀ d, d < 8 → og + 1 + d ≠ w) : OG h' og val := by
  obtain ⟨⟨g, e1, e2⟩, e3⟩ := o
  refine ⟨⟨g, e _ _ e1 h1, e2⟩, fun d hd => ?_⟩
  obtain ⟨f, f1, f2⟩ := e3 d hd
  exact ⟨f, e _ _ f1 (h2 d hd), f2⟩
theorem OG.cg {h : Hp} {og : Nat} {val val' : Nat → Nat → Int32} (o : OG h og val) (e : ∀ d c, d < 8 → c < 8 → val d c = val' d c) : OG h og val' := by
  obtain ⟨e1, e3⟩ := o
  refine ⟨e1, fun d hd => ?_⟩
  obtain ⟨f, f1, f2⟩ := e3 d hd
  exact ⟨f, f1, fun c hc => (f2 c hc).trans (e d c hd hc)⟩
abbrev ow1 (val : Nat → Nat → Int32) (d c : Nat) (m : Int32) : Nat → Nat → Int32 := fun a b => if a = d ∧ b = c then val a b + m else val a b
theorem OG.up {h h' : Hp} {og d c : Nat} {val : Nat → Nat → Int32} {f : Nat → Int32} {m : Int32} (o : OG h og val) (hd : d < 8) (hc : c < 8) (hf : h (og + 1 + d) = some (.inl (0, 8, .inl f))) (hA : h' (og + 1 + d) = some (.inl (0, 8, .inl (upd f c (f c + m))))) (e : Exw (og + 1 + d) h h') : OG h' og (ow1 val d c m) := by
  obtain ⟨⟨g, e1, e2⟩, e3⟩ := o
  refine ⟨⟨g, e _ _ e1 (by omega), e2⟩, fun a ha => ?_⟩
  obtain ⟨f9, f1, f2⟩ := e3 a ha
  by_cases z : a = d
  · subst z
    have ef : f9 = f := by
      have := Option.some.inj (f1.symm.trans hf)
      simpa using this
    subst ef
    refine ⟨_, hA, fun b hb => ?_⟩
    show upd f9 c (f9 c + m) b = if a = a ∧ b = c then val a b + m else val a b
    by_cases y : b = c
    · rw [y, upd_s, if_pos ⟨rfl, rfl⟩, f2 c hc]
    · rw [upd_n y, if_neg (fun q => y q.2)]
      exact f2 b hb
  · refine ⟨f9, e _ _ f1 (by omega), fun b hb => ?_⟩
    show f9 b = if a = d ∧ b = c then val a b + m else val a b
    rw [if_neg (fun q => z q.1)]
    exact f2 b hb
/-- what each owes each, with t tablets and l lines of the next -/
abbrev valp (σ : Sg) (t l : Nat) : Nat → Nat → Int32 := fun d c => gOw σ (nI d) (nI c) t + owe (gDD σ t) (gC σ t) (gM σ t) (nI d) (nI c) l
theorem valp_s {σ : Sg} {t l d c : Nat} (hd : d < 8) (hc : c < 8) (ed : gDD σ t l = nI d) (ec : gC σ t l = nI c) : ∀ a b, a < 8 → b < 8 → ow1 (valp σ t l) d c (gM σ t l) a b = valp σ t (l + 1) a b := by
  intro a b ha hb
  show (if a = d ∧ b = c then gOw σ (nI a) (nI b) t + owe _ _ _ _ _ l + gM σ t l else _) = gOw σ (nI a) (nI b) t + (if gDD σ t l = nI a ∧ gC σ t l = nI b then _ else _)
  rw [ed, ec]
  by_cases z : a = d ∧ b = c
  · rw [if_pos z, if_pos ⟨by rw [z.1], by rw [z.2]⟩, Int32.add_assoc]
  · rw [if_neg z, if_neg (fun q => z ⟨(nI_e8 hd ha q.1).symm, (nI_e8 hc hb q.2).symm⟩)]
theorem valp_0 {σ : Sg} {t : Nat} : ∀ a b, gOw σ (nI a) (nI b) t = valp σ t 0 a b := fun a b => (Int32.add_zero _).symm
section To
variable {G : Gt} {h : Hp}
set_option maxHeartbeats 4000000 in
theorem c_X4_total (hG : GOk G) {q : QA} {σ : Sg} (hS : SM h q σ) (h8 : gT σ ≤ 8) (h12 : ∀ t, t < gT σ → gn σ t ≤ 12) : Ct G yX4_total (.code yX4_total cX4_total 10 (some .int)) 0 0 0 0 [.ref (qo q)] h (is_i (gTo σ (gT σ)) h) pxN := by
  refine Ct.of (by decide +kernel) (Nat.le_of_ble_eq_true rfl) fun F hF hT hN hRm => ?_
  obtain ⟨s1, s2, s3, -, ⟨g2, s6, s7⟩, -⟩ := id hS
  have loop : ∀ i, i ≤ 8 → ∀ (L5 L6 L7 L8 L9 : Option Value), V G F (fin G F (is_i (gTo σ (gT σ)) h) pxN) 0 0 13 [some (.ref (qo q)), some (.int (gTo σ (min i (gT σ)))), some (.ref (qli q)), some (.int (nI 8)), some (.int (nI i)), L5, L6, L7, L8, L9] [] h := by
    refine lp_up 8 fun i hi ih L5 L6 L7 L8 L9 => ?_
    refine V.loc (L' := [some (.ref (qo q)), some (.int (gTo σ (min i (gT σ)))), some (.ref (qli q)), some (.int (nI 8)), some (.int (nI i)), none, none, none, none, none]) (fun j v hv => by
      match j, hv with
      | 0, hv => exact hv
      | 1, hv => exact hv
      | 2, hv => exact hv
      | 3, hv => exact hv
      | 4, hv => exact hv
      | 5, hv => cases hv
      | 6, hv => cases hv
      | 7, hv => cases hv
      | 8, hv => cases hv
      | 9, hv => cases hv
      | zz + 10, hv => cases hv) ?_
    refine V.run hF [(.iload 4, 2, .null), (.iload_n 3, 1, .null)] (pc' := 16) (L' := [some (.ref (qo q)), some (.int (gTo σ (min i (gT σ)))), some (.ref (qli q)), some (.int (nI 8)), some (.int (nI i)), none, none, none, none, none]) (st' := [.int (nI 8), .int (nI i)]) (by decide +kernel) rfl ?_
    refine V.icmpN_ge (i := i) (j := 8) hF (off := 54) (tgt := 70) (by decide +kernel) (by decide) (by omega) (by omega) (fun c1 => ?_) (fun c1 => ?_)
    · have e : min i (gT σ) = gT σ := by omega
      refine V.run hF [(.iload_n 1, 1, .null)] (pc' := 71) (L' := [some (.ref (qo q)), some (.int (gTo σ (min i (gT σ)))), some (.ref (qli q)), some (.int (nI 8)), some (.int (nI i)), none, none, none, none, none]) (st' := [.int (gTo σ (min i (gT σ)))]) (by decide +kernel) rfl ?_
      exact V.reti hF (by decide +kernel) ⟨by rw [e], rfl⟩
    · skip
      obtain ⟨e7, ⟨⟨g3, w1, w2⟩, w3⟩⟩ := s7 i (by omega)
      have g12 : gm σ i ≤ 12 := by
        unfold gm
        split
        · next z => exact h12 i z
        · exact Nat.zero_le _
      have inner : ∀ j, j ≤ gm σ i → ∀ (L9 : Option Value), V G F (fin G F (is_i (gTo σ (gT σ)) h) pxN) 0 0 37 [some (.ref (qo q)), some (.int (gTo σ (min i (gT σ)) + sm (gM σ i) j)), some (.ref (qli q)), some (.int (nI 8)), some (.int (nI i)), some (.ref (qla q i)), some (.ref (qla q i)), some (.int (nI (gm σ i))), some (.int (nI j)), L9] [] h := by
        refine lp_up (gm σ i) fun j hj jh L9 => ?_
        refine V.loc (L' := [some (.ref (qo q)), some (.int (gTo σ (min i (gT σ)) + sm (gM σ i) j)), some (.ref (qli q)), some (.int (nI 8)), some (.int (nI i)), some (.ref (qla q i)), some (.ref (qla q i)), some (.int (nI (gm σ i))), some (.int (nI j)), none]) (fun j v hv => by
          match j, hv with
          | 0, hv => exact hv
          | 1, hv => exact hv
          | 2, hv => exact hv
          | 3, hv => exact hv
          | 4, hv => exact hv
          | 5, hv => exact hv
          | 6, hv => exact hv
          | 7, hv => exact hv
          | 8, hv => exact hv
          | 9, hv => cases hv
          | zz + 10, hv => cases hv) ?_
        refine V.run hF [(.iload 8, 2, .null), (.iload 7, 2, .null)] (pc' := 41) (L' := [some (.ref (qo q)), some (.int (gTo σ (min i (gT σ)) + sm (gM σ i) j)), some (.ref (qli q)), some (.int (nI 8)), some (.int (nI i)), some (.ref (qla q i)), some (.ref (qla q i)), some (.int (nI (gm σ i))), some (.int (nI j)), none]) (st' := [.int (nI (gm σ i)), .int (nI j)]) (by decide +kernel) rfl ?_
        refine V.icmpN_ge (i := j) (j := gm σ i) hF (off := 23) (tgt := 64) (by decide +kernel) (by decide) (by omega) (by omega) (fun c2 => ?_) (fun c2 => ?_)
        · have e : j = gm σ i := by omega
          refine V.run hF [(.iinc 4 1, 3, .int 1), (.goto (-54), 3, .null)] (pc' := 13) (L' := [some (.ref (qo q)), some (.int (gTo σ (min i (gT σ)) + sm (gM σ i) j)), some (.ref (qli q)), some (.int (nI 8)), some (.int ((nI i) + 1)), some (.ref (qla q i)), some (.ref (qla q i)), some (.int (nI (gm σ i))), some (.int (nI j)), none]) (st' := []) (by decide +kernel) rfl ?_
          rw [nI_1 i]
          have k := ih c1 (some (.ref (qla q i))) (some (.ref (qla q i))) (some (.int (nI (gm σ i)))) (some (.int (nI j))) none
          have e2 : gTo σ (min (i + 1) (gT σ)) = gTo σ (min i (gT σ)) + sm (gM σ i) j := by
            by_cases z : i < gT σ
            · obtain ⟨e3, e4⟩ := min_s z
              rw [e3, e4, e, gm_in z]
              rfl
            · rw [min_e z, e, show gm σ i = 0 from if_neg z, show sm (gM σ i) 0 = 0 from rfl, Int32.add_zero]
          rw [e2] at k
          exact k
        · skip
          obtain ⟨fr, er, r0, r1, r2, r3⟩ := w3 j c2
          refine V.run hF [(.aload 6, 2, .null), (.iload 8, 2, .null)] (pc' := 48) (L' := [some (.ref (qo q)), some (.int (gTo σ (min i (gT σ)) + sm (gM σ i) j)), some (.ref (qli q)), some (.int (nI 8)), some (.int (nI i)), some (.ref (qla q i)), some (.ref (qla q i)), some (.int (nI (gm σ i))), some (.int (nI j)), none]) (st' := [.int (nI j), .ref (qla q i)]) (by decide +kernel) rfl ?_
          refine V.aaldS (j := j) (b := (qrr q i j)) hG hF (by decide +kernel) w1 (by omega) (by first | decide | omega) (w2 j c2) ?_
          refine V.run hF [(.astore 9, 2, .null), (.iload_n 1, 1, .null), (.aload 9, 2, .null), (.iconst 2, 1, .int (nI 2))] (pc' := 55) (L' := [some (.ref (qo q)), some (.int (gTo σ (min i (gT σ)) + sm (gM σ i) j)), some (.ref (qli q)), some (.int (nI 8)), some (.int (nI i)), some (.ref (qla q i)), some (.ref (qla q i)), some (.int (nI (gm σ i))), some (.int (nI j)), some (.ref (qrr q i j))]) (st' := [.int (nI 2), .ref (qrr q i j), .int (gTo σ (min i (gT σ)) + sm (gM σ i) j)]) (by decide +kernel) rfl ?_
          refine V.ialdN (j := 2) hG hF (by decide +kernel) er (by omega) (by first | decide | omega) ?_
          rw [r2]
          refine V.run hF [(.iadd, 1, .null), (.istore_n 1, 1, .null), (.iinc 8 1, 3, .int 1), (.goto (-24), 3, .null)] (pc' := 37) (L' := [some (.ref (qo q)), some (.int ((gTo σ (min i (gT σ)) + sm (gM σ i) j) + gM σ i j)), some (.ref (qli q)), some (.int (nI 8)), some (.int (nI i)), some (.ref (qla q i)), some (.ref (qla q i)), some (.int (nI (gm σ i))), some (.int ((nI j) + 1)), some (.ref (qrr q i j))]) (st' := []) (by decide +kernel) rfl ?_
          rw [nI_1 j]
          have k := jh c2 (some (.ref (qrr q i j)))
          have e2 : gTo σ (min i (gT σ)) + sm (gM σ i) (j + 1) = gTo σ (min i (gT σ)) + sm (gM σ i) j + gM σ i j := (Int32.add_assoc _ _ _).symm
          rw [e2] at k
          exact k
      refine V.run hF [(.aload_n 2, 1, .null), (.iload 4, 2, .null)] (pc' := 22) (L' := [some (.ref (qo q)), some (.int (gTo σ (min i (gT σ)))), some (.ref (qli q)), some (.int (nI 8)), some (.int (nI i)), none, none, none, none, none]) (st' := [.int (nI i), .ref (qli q)]) (by decide +kernel) rfl ?_
      refine V.aaldS (j := i) (b := (qla q i)) hG hF (by decide +kernel) s6 (by omega) (by first | decide | omega) e7 ?_
      refine V.run hF [(.astore 5, 2, .null), (.aload 5, 2, .null), (.astore 6, 2, .null), (.aload 6, 2, .null)] (pc' := 31) (L' := [some (.ref (qo q)), some (.int (gTo σ (min i (gT σ)))), some (.ref (qli q)), some (.int (nI 8)), some (.int (nI i)), some (.ref (qla q i)), some (.ref (qla q i)), none, none, none]) (st' := [.ref (qla q i)]) (by decide +kernel) rfl ?_
      refine V.alen hG hF (by decide +kernel) (by decide) w1 ?_
      show V G F _ _ _ 32 [some (.ref (qo q)), some (.int (gTo σ (min i (gT σ)))), some (.ref (qli q)), some (.int (nI 8)), some (.int (nI i)), some (.ref (qla q i)), some (.ref (qla q i)), none, none, none] [.int (nI (gm σ i))] h
      refine V.run hF [(.istore 7, 2, .null), (.iconst 0, 1, .int (nI 0)), (.istore 8, 2, .null)] (pc' := 37) (L' := [some (.ref (qo q)), some (.int (gTo σ (min i (gT σ)))), some (.ref (qli q)), some (.int (nI 8)), some (.int (nI i)), some (.ref (qla q i)), some (.ref (qla q i)), some (.int (nI (gm σ i))), some (.int (nI 0)), none]) (st' := []) (by decide +kernel) rfl ?_
      have k := inner 0 (Nat.zero_le _) none
      rw [show sm (gM σ i) 0 = 0 from rfl, Int32.add_zero] at k
      exact k
  refine V.run hF [(.iconst 0, 1, .int 0), (.istore_n 1, 1, .null), (.aload_n 0, 1, .null)] (pc' := 3) (L' := [some (.ref (qo q)), some (.int 0), none, none, none, none, none, none, none, none]) (st' := [.ref (qo q)]) (by decide +kernel) rfl ?_
  refine V.getf hG hF k_RX4_24 (by decide +kernel) s1 rfl ?_
  refine V.run hF [(.astore_n 2, 1, .null), (.aload_n 2, 1, .null)] (pc' := 8) (L' := [some (.ref (qo q)), some (.int 0), some (.ref (qli q)), none, none, none, none, none, none, none]) (st' := [.ref (qli q)]) (by decide +kernel) rfl ?_
  refine V.alen hG hF (by decide +kernel) (by decide) s6 ?_
  show V G F _ _ _ 9 [some (.ref (qo q)), some (.int 0), some (.ref (qli q)), none, none, none, none, none, none, none] [.int (nI 8)] h
  refine V.run hF [(.istore_n 3, 1, .null), (.iconst 0, 1, .int (nI 0)), (.istore 4, 2, .null)] (pc' := 13) (L' := [some (.ref (qo q)), some (.int 0), some (.ref (qli q)), some (.int (nI 8)), some (.int (nI 0)), none, none, none, none, none]) (st' := []) (by decide +kernel) rfl ?_
  exact loop 0 (Nat.zero_le _) none none none none none
end To
