/-! ===== the class's cells and Sim's are apart ===== -/
/-- what may stand in the class's cell i -/
def CK (i : Nat) (c : va_E) : Prop := match c with
  | .inr (j, _) => j < 4
  | .inl (t, n, _) => (i = 1 ∧ t = 1) ∨ (i = 3 ∧ t = 0 ∧ n = 10) ∨ t = 3 ∨ (t = 0 ∧ (n = 8 ∨ n = 12))
section Ap
variable {h h' : Hp} {A : Nat → Nat} {σ σ' : Sg} {P : PS} {r : Nat → Int32} {q : QA}
theorem CS.ck (hC : CS h A σ P r) {i : Nat} (hi : i < 12 + 6 * gT σ) : ∃ c, h (A i) = some c ∧ CK i c := by
  obtain ⟨hI, hT8, hA, h1, h2, h3, ⟨s1, s2, s3, s4, s5, s6, s7⟩, h5, h6⟩ := hC
  by_cases q : i < 12
  · have : i = 0 ∨ i = 1 ∨ i = 2 ∨ i = 3 ∨ i = 4 ∨ i = 5 ∨ i = 6 ∨ i = 7 ∨ i = 8 ∨ i = 9 ∨ i = 10 ∨ i = 11 := by omega
    rcases this with rfl | rfl | rfl | rfl | rfl | rfl | rfl | rfl | rfl | rfl | rfl | rfl <;> refine ⟨_, by assumption, ?_⟩ <;> simp [CK]
  · obtain ⟨t, ht⟩ : ∃ t, t = (i - 12) / 6 := ⟨_, rfl⟩
    have ht' : t < gT σ := by omega
    obtain ⟨t1, ⟨t2, t3, t4, t5, t6⟩, -⟩ := h6 t ht'
    have : i = 12 + 6 * t ∨ i = 13 + 6 * t ∨ i = 14 + 6 * t ∨ i = 15 + 6 * t ∨ i = 16 + 6 * t ∨ i = 17 + 6 * t := by omega
    rcases this with e | e | e | e | e | e <;> rw [e] <;> refine ⟨_, by assumption, ?_⟩ <;> simp [CK]
theorem CS.off (hC : CS h A σ P r) {x : Nat} {c : va_E} (hx : h x = some c) (hn : ∀ i, i < 12 + 6 * gT σ → x = A i → ¬ CK i c) : ∀ i, i < 12 + 6 * gT σ → x ≠ A i := by
  intro i hi e
  obtain ⟨d, h1, h2⟩ := hC.ck hi
  refine hn i hi e ?_
  rw [e] at hx
  rw [Option.some.inj (hx.symm.trans h1)]
  exact h2
theorem CS.same (hC : CS h A σ P r) (e : ∀ i, i < 12 + 6 * gT σ → h' (A i) = h (A i)) : CS h' A σ P r := by
  obtain ⟨hI, hT8, hA, h1, h2, h3, h4, h5, h6⟩ := id hC
  exact ⟨hI, hT8, (e 0 (by omega)).trans hA, (e 1 (by omega)).trans h1, (e 2 (by omega)).trans h2, (e 3 (by omega)).trans h3, SMc.mv h4 (fun i _ _ _ => e i (by omega)), (e 5 (by omega)).trans h5, fun t ht => hC.tb ht (fun i _ q2 => e i (by
    have : t < gT σ := ht
    omega))⟩
theorem CS.ex (hC : CS h A σ P r) (e : Ex h h') : CS h' A σ P r := hC.same fun i hi => by
  obtain ⟨c, hc⟩ := hC.live hi
  rw [hc, e _ _ hc]
theorem CS.exw (hC : CS h A σ P r) {w : Nat} (e : Exw w h h') (hw : ∀ i, i < 12 + 6 * gT σ → w ≠ A i) : CS h' A σ P r := hC.same fun i hi => by
  obtain ⟨c, hc⟩ := hC.live hi
  rw [hc, e _ _ hc (Ne.symm (hw i hi))]
/-- who is there, and the heats: not one array for both -/
def SO (A : Nat → Nat) (q : QA) : Prop := qth q ≠ A 1 ∧ qhe q ≠ A 3
theorem SM.o1 (hS : SM h q σ') (hC : CS h A σ P r) : ∀ i, i < 12 + 6 * gT σ → qo q ≠ A i := hC.off hS.1 (fun i _ _ k => by simp [CK] at k)
theorem SM.o2 (hS : SM h q σ') (hC : CS h A σ P r) (hO : SO A q) : ∀ i, i < 12 + 6 * gT σ → qth q ≠ A i := hC.off hS.2.1 (fun i _ e k => by
  simp [CK] at k
  rw [k] at e
  exact hO.1 e)
theorem SM.o3 (hS : SM h q σ') (hC : CS h A σ P r) (hO : SO A q) : ∀ i, i < 12 + 6 * gT σ → qhe q ≠ A i := hC.off hS.2.2.1 (fun i _ e k => by
  simp [CK] at k
  rw [k] at e
  exact hO.2 e)
theorem SM.o6 (hS : SM h q σ') (hC : CS h A σ P r) : ∀ i, i < 12 + 6 * gT σ → qli q ≠ A i := by
  obtain ⟨g, e1, -⟩ := hS.2.2.2.2.1
  exact hC.off e1 (fun i _ _ k => by simp [CK] at k)
theorem SM.o5 (hS : SM h q σ') (hC : CS h A σ P r) {t : Nat} (ht : t < gT σ') : ∀ i, i < 12 + 6 * gT σ → qtr q t ≠ A i := by
  obtain ⟨f, e1⟩ := hS.qtr_c ht
  exact hC.off e1 (fun i _ _ k => by simp [CK] at k)
theorem SM.o8 (hS : SM h q σ') (hC : CS h A σ P r) {t j : Nat} (ht : t < 8) (hj : j < gm σ' t) : ∀ i, i < 12 + 6 * gT σ → qrr q t j ≠ A i := by
  obtain ⟨f, e1⟩ := hS.qrr_c ht hj
  exact hC.off e1 (fun i _ _ k => by simp [CK] at k)
/-- a call of the class leaves Sim as it is -/
theorem SM.kp (hS : SM h q σ') (hC : CS h A σ P r) (hO : SO A q) (hk : kpC h h' A (12 + 6 * gT σ)) : SM h' q σ' := by
  have key : ∀ x c, h x = some c → (∀ i, i < 12 + 6 * gT σ → x ≠ A i) → h' x = some c := fun x c hc hx => (hk x hx).trans hc
  have hS0 := hS
  obtain ⟨s1, s2, s3, ⟨g1, s4, s5⟩, ⟨g2, s6, s7⟩, s8, s9⟩ := hS
  refine ⟨key _ _ s1 (hS0.o1 hC), key _ _ s2 (hS0.o2 hC hO), key _ _ s3 (hS0.o3 hC hO), ⟨g1, key _ _ s4 (hC.off s4 (fun i _ _ k => by simp [CK] at k)), fun t ht => ⟨(s5 t ht).1, ?_⟩⟩, ⟨g2, key _ _ s6 (hS0.o6 hC), fun t ht => ⟨(s7 t ht).1, ?_⟩⟩, s8, s9⟩
  · obtain ⟨f, e1, e2⟩ := (s5 t ht).2
    exact ⟨f, key _ _ e1 (hC.off e1 (fun i _ _ k => by simp [CK] at k)), e2⟩
  · obtain ⟨⟨g3, m1, m2⟩, m3⟩ := (s7 t ht).2
    refine ⟨⟨g3, key _ _ m1 (hC.off m1 (fun i _ _ k => by simp [CK] at k)), m2⟩, fun j hj => ?_⟩
    obtain ⟨f, e1, e2⟩ := m3 j hj
    exact ⟨f, key _ _ e1 (hC.off e1 (fun i _ _ k => by simp [CK] at k)), e2⟩
end Ap
section Ap2
variable {h h' : Hp} {A A' : Nat → Nat} {σ σ' : Sg} {P : PS} {r : Nat → Int32} {q : QA}
/-- .. nor does adding a tablet: the new cells weren't there -/
theorem SM.kpA (hS : SM h q σ') (hC : CS h A σ P r) (hO : SO A q) (i1 : ∀ i, i < 12 + 6 * gT σ → A' i = A i) (i2 : ∀ i, 12 + 6 * gT σ ≤ i → i < 18 + 6 * gT σ → h (A' i) = none) (hk : kpC h h' A' (18 + 6 * gT σ)) : SM h' q σ' := by
  obtain ⟨hm, eh⟩ : ∃ z : Hp, z = fun x => if h x = none then none else h' x := ⟨_, rfl⟩
  have kp : kpC h hm A (12 + 6 * gT σ) := fun x hx => by
    rw [eh]
    show (if h x = none then none else h' x) = h x
    by_cases z : h x = none
    · rw [if_pos z, z]
    · rw [if_neg z]
      refine hk x (fun i hi e => ?_)
      by_cases zi : i < 12 + 6 * gT σ
      · rw [i1 i zi] at e
        exact hx i zi e
      · rw [e] at z
        exact z (i2 i (by omega) hi)
  have h1 := hS.kp hC hO kp
  refine h1.ex fun x c hc => ?_
  rw [eh] at hc
  have hc : (if h x = none then none else h' x) = some c := hc
  by_cases z : h x = none
  · rw [if_pos z] at hc
    cases hc
  · rw [if_neg z] at hc
    exact hc
end Ap2
