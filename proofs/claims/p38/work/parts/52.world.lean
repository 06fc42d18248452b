/-! ===== the law's round: what stands beside the class and Sim ===== -/
def SOf (q : QA) (σ : Sg) (x : Nat) : Prop := qo q ≠ x ∧ qth q ≠ x ∧ qhe q ≠ x ∧ qta q ≠ x ∧ (∀ t, t < gT σ → qtr q t ≠ x) ∧ qli q ≠ x ∧ (∀ t, t < 8 → qla q t ≠ x) ∧ ∀ t i, t < 8 → i < gm σ t → qrr q t i ≠ x
def COf (A : Nat → Nat) (σ : Sg) (x : Nat) : Prop := ∀ i, i < 12 + 6 * gT σ → x ≠ A i
abbrev LO (A : Nat → Nat) (q : QA) (σ : Sg) (x : Nat) : Prop := COf A σ x ∧ SOf q σ x
/-- class and Sim, as far as the round's state goes -/
def WD (A : Nat → Nat) (q : QA) (σ : Sg) (h : Hp) : Prop := ∃ (P : PS) (r : Nat → Int32), CS h A σ P r ∧ SM h q σ
section Wo
variable {h h' : Hp} {A : Nat → Nat} {q : QA} {σ : Sg} {P : PS} {r : Nat → Int32} {x : Nat}
theorem SM.sof (hS : SM h q σ) (hx : h x = none) : SOf q σ x := by
  have k : ∀ {y : Nat} {c : va_E}, h y = some c → y ≠ x := fun hc => ne_new hc hx
  have hS0 := hS
  obtain ⟨s1, s2, s3, ⟨g1, s4, s5⟩, ⟨g2, s6, s7⟩, s8, s9⟩ := hS
  refine ⟨k s1, k s2, k s3, k s4, fun t ht => ?_, k s6, fun t ht => ?_, fun t i ht hi => ?_⟩
  · obtain ⟨f, e⟩ := hS0.qtr_c ht
    exact k e
  · obtain ⟨n, g, e⟩ := hS0.qla_c ht
    exact k e
  · obtain ⟨f, e⟩ := hS0.qrr_c ht hi
    exact k e
theorem CS.cof (hC : CS h A σ P r) (hx : h x = none) : COf A σ x := fun i hi => by
  obtain ⟨c, hc⟩ := hC.live hi
  exact Ne.symm (ne_new hc hx)
theorem WD.lo (hW : WD A q σ h) (hx : h x = none) : LO A q σ x := by
  obtain ⟨P, r, hC, hS⟩ := hW
  exact ⟨hC.cof hx, hS.sof hx⟩
theorem WD.ex (hW : WD A q σ h) (e : Ex h h') : WD A q σ h' := by
  obtain ⟨P, r, hC, hS⟩ := hW
  exact ⟨P, r, hC.ex e, hS.ex e⟩
theorem WD.exw (hW : WD A q σ h) (e : Exw x h h') (hx : LO A q σ x) : WD A q σ h' := by
  obtain ⟨P, r, hC, hS⟩ := hW
  obtain ⟨n0, n1, n2, n3, n4, n5, n6, n7, n8⟩ := hx
  exact ⟨P, r, hC.exw e n0, hS.exw e n1 n2 n3 n4 n5 n6 n7 n8⟩
theorem WD.kp {P' : PS} {r' : Nat → Int32} (hS : SM h q σ) (hC : CS h A σ P r) (hO : SO A q) (hC' : CS h' A σ P' r') (hk : kpC h h' A (12 + 6 * gT σ)) : WD A q σ h' := ⟨P', r', hC', hS.kp hC hO hk⟩
end Wo
/-- .. the grid at og and the numbers of lines at mny besides -/
def LW (A : Nat → Nat) (q : QA) (σ : Sg) (og mny : Nat) (h : Hp) (val : Nat → Nat → Int32) (fm : Nat → Int32) : Prop := WD A q σ h ∧ OG h og val ∧ h mny = some (.inl (0, gT σ, .inl fm))
/-- where they lie -/
def LPl (A : Nat → Nat) (q : QA) (σ : Sg) (og mny : Nat) : Prop := LO A q σ og ∧ (∀ d, d < 8 → LO A q σ (og + 1 + d)) ∧ LO A q σ mny ∧ mny ≠ og ∧ ∀ d, d < 8 → mny ≠ og + 1 + d
section Wp
variable {h h' : Hp} {A : Nat → Nat} {q : QA} {σ : Sg} {og mny : Nat} {val : Nat → Nat → Int32} {fm : Nat → Int32}
theorem OG.kp {K : Nat} (o : OG h og val) (hk : kpC h h' A K) (h1 : ∀ i, i < K → og ≠ A i) (h2 : ∀ d, d < 8 → ∀ i, i < K → og + 1 + d ≠ A i) : OG h' og val := by
  obtain ⟨⟨g, e1, e2⟩, e3⟩ := o
  refine ⟨⟨g, (hk _ h1).trans e1, e2⟩, fun d hd => ?_⟩
  obtain ⟨f, f1, f2⟩ := e3 d hd
  exact ⟨f, (hk _ (h2 d hd)).trans f1, f2⟩
theorem LW.kp {P P' : PS} {r r' : Nat → Int32} (hL : LW A q σ og mny h val fm) (hP : LPl A q σ og mny) (hS : SM h q σ) (hC : CS h A σ P r) (hO : SO A q) (hC' : CS h' A σ P' r') (hk : kpC h h' A (12 + 6 * gT σ)) : LW A q σ og mny h' val fm := by
  obtain ⟨l1, l2, l3⟩ := hL
  obtain ⟨p1, p2, p3, p4, p5⟩ := hP
  exact ⟨WD.kp hS hC hO hC' hk, l2.kp hk p1.1 (fun d hd => (p2 d hd).1), (hk _ p3.1).trans l3⟩
/-- a cell of the grid written -/
theorem LW.up {d c : Nat} {f : Nat → Int32} {m : Int32} (hL : LW A q σ og mny h val fm) (hP : LPl A q σ og mny) (hd : d < 8) (hc : c < 8) (hf : h (og + 1 + d) = some (.inl (0, 8, .inl f))) (hA : h' (og + 1 + d) = some (.inl (0, 8, .inl (upd f c (f c + m))))) (e : Exw (og + 1 + d) h h') : LW A q σ og mny h' (ow1 val d c m) fm := by
  obtain ⟨l1, l2, l3⟩ := hL
  obtain ⟨p1, p2, p3, p4, p5⟩ := hP
  exact ⟨l1.exw e (p2 d hd), l2.up hd hc hf hA e, e _ _ l3 (p5 d hd)⟩
theorem LW.cg {val' : Nat → Nat → Int32} (hL : LW A q σ og mny h val fm) (e : ∀ d c, d < 8 → c < 8 → val d c = val' d c) : LW A q σ og mny h val' fm := ⟨hL.1, hL.2.1.cg e, hL.2.2⟩
theorem LW.mn {fm' : Nat → Int32} (hL : LW A q σ og mny h val fm) (hP : LPl A q σ og mny) (hA : h' mny = some (.inl (0, gT σ, .inl fm'))) (e : Exw mny h h') : LW A q σ og mny h' val fm' := by
  obtain ⟨l1, l2, l3⟩ := hL
  obtain ⟨p1, p2, p3, p4, p5⟩ := hP
  exact ⟨l1.exw e p3, l2.exw e (Ne.symm p4) (fun d hd => Ne.symm (p5 d hd)), hA⟩
end Wp
/-- all of the first p are 0 -/
def evn (f : Nat → Int32) : Nat → Int32
  | 0 => 1
  | p + 1 => if evn f p = 0 then 0 else if f p = 0 then 1 else 0
theorem evn_iff {f : Nat → Int32} : ∀ p, (evn f p = 0 ∨ evn f p = 1) ∧ (evn f p = 1 ↔ ∀ x, x < p → f x = 0)
  | 0 => ⟨Or.inr rfl, fun _ x hx => absurd hx (Nat.not_lt_zero x), fun _ => rfl⟩
  | p + 1 => by
    obtain ⟨h1, h2⟩ := evn_iff (f := f) p
    have n01 : ¬ (0 : Int32) = 1 := by decide +kernel
    have n10 : ¬ (1 : Int32) = 0 := by decide +kernel
    rw [show evn f (p + 1) = (if evn f p = 0 then 0 else if f p = 0 then 1 else 0) from rfl]
    rcases h1 with h1 | h1
    · rw [if_pos h1]
      refine ⟨Or.inl rfl, fun z => absurd z n01, fun z => ?_⟩
      have := h2.mpr (fun x hx => z x (by omega))
      rw [h1] at this
      exact absurd this n01
    · rw [if_neg (by rw [h1]; exact n10)]
      by_cases z : f p = 0
      · rw [if_pos z]
        refine ⟨Or.inr rfl, fun _ x hx => ?_, fun _ => rfl⟩
        by_cases e : x = p
        · rw [e, z]
        · exact h2.mp h1 x (by omega)
      · rw [if_neg z]
        exact ⟨Or.inl rfl, fun y => absurd y n01, fun y => absurd (y p (Nat.lt_succ_self p)) z⟩
/-- is there a line on the first t tablets -/
def anyT (σ : Sg) : Nat → Int32
  | 0 => 0
  | t + 1 => if gn σ t = 0 then anyT σ t else 1
theorem anyT_iff {σ : Sg} : ∀ T, (anyT σ T = 0 ∨ anyT σ T = 1) ∧ (anyT σ T = 1 ↔ ∃ t, t < T ∧ 0 < gn σ t)
  | 0 => ⟨Or.inl rfl, fun z => absurd z (show ¬ (0 : Int32) = 1 by decide +kernel), fun ⟨t, ht, _⟩ => absurd ht (Nat.not_lt_zero t)⟩
  | T + 1 => by
    obtain ⟨h1, h2⟩ := anyT_iff (σ := σ) T
    rw [show anyT σ (T + 1) = (if gn σ T = 0 then anyT σ T else 1) from rfl]
    by_cases z : gn σ T = 0
    · rw [if_pos z]
      refine ⟨h1, h2.trans ⟨fun ⟨t, ht, y⟩ => ⟨t, by omega, y⟩, fun ⟨t, ht, y⟩ => ⟨t, ?_, y⟩⟩⟩
      by_cases e : t = T
      · rw [e] at y
        omega
      · omega
    · rw [if_neg z]
      exact ⟨Or.inr rfl, fun _ => ⟨T, Nat.lt_succ_self T, Nat.pos_of_ne_zero z⟩, fun _ => rfl⟩
/-- does one of the first p get to somebody -/
def rdT (σ : Sg) : Nat → Int32
  | 0 => 0
  | p + 1 => if rdT σ p = 0 then (if aln σ p = 0 then 0 else 1) else 1
theorem rdT_iff {σ : Sg} : ∀ p, (rdT σ p = 0 ∨ rdT σ p = 1) ∧ (rdT σ p = 1 ↔ ∃ x, x < p ∧ 0 < aln σ x)
  | 0 => ⟨Or.inl rfl, fun z => absurd z (show ¬ (0 : Int32) = 1 by decide +kernel), fun ⟨t, ht, _⟩ => absurd ht (Nat.not_lt_zero t)⟩
  | p + 1 => by
    obtain ⟨h1, h2⟩ := rdT_iff (σ := σ) p
    have n01 : ¬ (0 : Int32) = 1 := by decide +kernel
    have n10 : ¬ (1 : Int32) = 0 := by decide +kernel
    rw [show rdT σ (p + 1) = (if rdT σ p = 0 then (if aln σ p = 0 then 0 else 1) else 1) from rfl]
    rcases h1 with h1 | h1
    · rw [if_pos h1]
      by_cases z : aln σ p = 0
      · rw [if_pos z]
        refine ⟨Or.inl rfl, fun y => absurd y n01, fun ⟨x, hx, y⟩ => ?_⟩
        by_cases e : x = p
        · rw [e] at y
          have z : aln σ p = 0 := z
          exact absurd z (Nat.pos_iff_ne_zero.mp y)
        · have := h2.mpr ⟨x, by omega, y⟩
          rw [h1] at this
          exact absurd this n01
      · rw [if_neg z]
        exact ⟨Or.inr rfl, fun _ => ⟨p, Nat.lt_succ_self p, Nat.pos_of_ne_zero z⟩, fun _ => rfl⟩
    · rw [if_neg (by rw [h1]; exact n10)]
      refine ⟨Or.inr rfl, fun _ => ?_, fun _ => rfl⟩
      obtain ⟨x, hx, y⟩ := h2.mp h1
      exact ⟨x, by omega, y⟩
