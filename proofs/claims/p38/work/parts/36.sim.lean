/-! ===== TallyWaxLaw$Sim: its state is the class's, in numbers; where it lies ===== -/
theorem nek {h : Hp} {x y : Nat} {c d : va_E} (hx : h x = some c) (hy : h y = some d) (hcd : c ≠ d) : x ≠ y := by
  rintro rfl
  exact hcd (Option.some.inj (hx.symm.trans hy))
/-- what stood stands, but at w -/
abbrev Exw (w : Nat) (h h' : Hp) : Prop := ∀ x c, h x = some c → x ≠ w → h' x = some c
theorem Ex.w {h h' : Hp} {w : Nat} (e : Ex h h') : Exw w h h' := fun x c hc _ => e x c hc
theorem Exw.of {h h' : Hp} {w : Nat} (e : ∀ x, x ≠ w → h' x = h x) : Exw w h h' := fun x c hc hx => (e x hx).trans hc
theorem Exw.exw {h h1 h2 : Hp} {w : Nat} (e : Ex h h1) (e2 : Exw w h1 h2) : Exw w h h2 := fun x c hc hx => e2 x c (e x c hc) hx
def Row2 (h : Hp) (a : Nat) (ha ce : Int32) : Prop := ∃ f : Nat → Int32, h a = some (.inl (0, 2, .inl f)) ∧ f 0 = ha ∧ f 1 = ce
theorem Row2.exw {h h' : Hp} {w a : Nat} {ha ce : Int32} (hr : Row2 h a ha ce) (e : Exw w h h') (hw : a ≠ w) : Row2 h' a ha ce := by
  obtain ⟨f, e1, e2⟩ := hr
  exact ⟨f, e _ _ e1 hw, e2⟩
theorem Row2.ne {h : Hp} {a b : Nat} {ha ce : Int32} {y : va_E} (hr : Row2 h a ha ce) (hb : h b = some y) (hy : ∀ f : Nat → Int32, y ≠ .inl (0, 2, .inl f)) : a ≠ b := by
  rintro rfl
  obtain ⟨f, e1, -⟩ := hr
  exact hy f (Option.some.inj (hb.symm.trans e1))
theorem Rows.exw {h h' : Hp} {w a n : Nat} {R : Nat → Nat} {D C M W : Nat → Int32} (hr : Rows h a n R D C M W) (e : Exw w h h') (hw : a ≠ w) (hw2 : ∀ j, j < n → R j ≠ w) : Rows h' a n R D C M W := by
  obtain ⟨⟨g, e1, e3⟩, h2⟩ := hr
  refine ⟨⟨g, e _ _ e1 hw, e3⟩, fun j hj => ?_⟩
  obtain ⟨f, q1, q2⟩ := h2 j hj
  exact ⟨f, e _ _ q1 (hw2 j hj), q2⟩
/-- a cell that is neither an array of arrays nor a line's row -/
def nR (y : va_E) : Prop := (∀ n x, y ≠ .inl (2, n, x)) ∧ ∀ f, y ≠ .inl (0, 4, f)
theorem Rows.exk {h h' : Hp} {w a n : Nat} {y : va_E} {R : Nat → Nat} {D C M W : Nat → Int32} (hr : Rows h a n R D C M W) (e : Exw w h h') (hw : h w = some y) (hy : nR y) : Rows h' a n R D C M W := by
  obtain ⟨⟨g, e1, e3⟩, h2⟩ := id hr
  refine hr.exw e (nek e1 hw fun z => hy.1 _ _ z.symm) (fun j hj => ?_)
  obtain ⟨f, q1, q2⟩ := h2 j hj
  exact nek q1 hw fun z => hy.2 _ z.symm
abbrev gm (σ : Sg) (t : Nat) : Nat := if t < gT σ then gn σ t else 0
theorem gm_in {σ : Sg} {t : Nat} (ht : t < gT σ) : gm σ t = gn σ t := if_pos ht
abbrev QA : Type := (Nat × Nat × Nat × Nat × Nat) × (Nat → Nat) × (Nat → Nat) × (Nat → Nat → Nat)
abbrev qo (q : QA) : Nat := q.1.1
abbrev qth (q : QA) : Nat := q.1.2.1
abbrev qhe (q : QA) : Nat := q.1.2.2.1
abbrev qta (q : QA) : Nat := q.1.2.2.2.1
abbrev qli (q : QA) : Nat := q.1.2.2.2.2
abbrev qtr (q : QA) : Nat → Nat := q.2.1
abbrev qla (q : QA) : Nat → Nat := q.2.2.1
abbrev qrr (q : QA) : Nat → Nat → Nat := q.2.2.2
abbrev smO (q : QA) (σ : Sg) : va_E := .inr (4, [.ref (qth q), .ref (qhe q), .ref (qta q), .ref (qli q), .int (nI (gy σ)), .int (gme σ), .int (gde σ)])
def SM (h : Hp) (q : QA) (σ : Sg) : Prop :=
  h (qo q) = some (smO q σ) ∧ h (qth q) = some (.inl (1, 8, .inl (gth σ))) ∧ h (qhe q) = some (.inl (0, 10, .inl (ghe σ))) ∧
  (∃ g : Nat → Option Nat, h (qta q) = some (.inl (2, gT σ, .inr (.inr (.inr (.inr g))))) ∧ ∀ t, t < gT σ → g t = some (qtr q t) ∧ Row2 h (qtr q t) (gha σ t) (gce σ t)) ∧
  (∃ g : Nat → Option Nat, h (qli q) = some (.inl (4, 8, .inr (.inr (.inr (.inr g))))) ∧ ∀ t, t < 8 → g t = some (qla q t) ∧ Rows h (qla q t) (gm σ t) (qrr q t) (gDD σ t) (gC σ t) (gM σ t) (gW σ t)) ∧
  (∀ t u, t < gT σ → u < gT σ → qtr q t = qtr q u → t = u) ∧
  (∀ t u i j, t < 8 → u < 8 → i < gm σ t → j < gm σ u → qrr q t i = qrr q u j → t = u ∧ i = j)
section Sm
variable {h h' : Hp} {q : QA} {σ : Sg} {w : Nat}
/-- any state that agrees with this one -/
theorem SM.cg {σ' : Sg} (hS : SM h q σ) (eT : gT σ' = gT σ) (eth : gth σ' = gth σ) (ehe : ghe σ' = ghe σ) (ey : gy σ' = gy σ) (eme : gme σ' = gme σ) (ede : gde σ' = gde σ) (et : ∀ t, t < gT σ → gha σ' t = gha σ t ∧ gce σ' t = gce σ t ∧ gn σ' t = gn σ t ∧ ∀ j, j < gn σ t → gDD σ t j = gDD σ' t j ∧ gC σ t j = gC σ' t j ∧ gM σ t j = gM σ' t j ∧ gW σ t j = gW σ' t j) : SM h q σ' := by
  obtain ⟨s1, s2, s3, ⟨g1, s4, s5⟩, ⟨g2, s6, s7⟩, s8, s9⟩ := hS
  have eg : ∀ t, gm σ' t = gm σ t := fun t => by
    unfold gm
    rw [eT]
    by_cases z : t < gT σ
    · rw [if_pos z, if_pos z]
      exact (et t z).2.2.1
    · rw [if_neg z, if_neg z]
  refine ⟨?_, by rw [eth]; exact s2, by rw [ehe]; exact s3, ⟨g1, by rw [eT]; exact s4, fun t ht => ?_⟩, ⟨g2, s6, fun t ht => ?_⟩, by rw [eT]; exact s8, fun t u i j => by rw [eg, eg]; exact s9 t u i j⟩
  · show h (qo q) = some (.inr (4, [.ref (qth q), .ref (qhe q), .ref (qta q), .ref (qli q), .int (nI (gy σ')), .int (gme σ'), .int (gde σ')]))
    rw [ey, eme, ede]
    exact s1
  · rw [eT] at ht
    rw [(et t ht).1, (et t ht).2.1]
    exact s5 t ht
  · refine ⟨(s7 t ht).1, ?_⟩
    rw [eg]
    refine (s7 t ht).2.cg fun j hj => ?_
    by_cases z : t < gT σ
    · rw [gm_in z] at hj
      exact (et t z).2.2.2 j hj
    · unfold gm at hj
      rw [if_neg z] at hj
      exact absurd hj (Nat.not_lt_zero j)
/-- its cells, told by what they are: one for all of them -/
theorem SM.exw (hS : SM h q σ) (e : Exw w h h') (n1 : qo q ≠ w) (n2 : qth q ≠ w) (n3 : qhe q ≠ w) (n4 : qta q ≠ w) (n5 : ∀ t, t < gT σ → qtr q t ≠ w) (n6 : qli q ≠ w) (n7 : ∀ t, t < 8 → qla q t ≠ w) (n8 : ∀ t i, t < 8 → i < gm σ t → qrr q t i ≠ w) : SM h' q σ := by
  obtain ⟨s1, s2, s3, ⟨g1, s4, s5⟩, ⟨g2, s6, s7⟩, s8, s9⟩ := hS
  exact ⟨e _ _ s1 n1, e _ _ s2 n2, e _ _ s3 n3, ⟨g1, e _ _ s4 n4, fun t ht => ⟨(s5 t ht).1, (s5 t ht).2.exw e (n5 t ht)⟩⟩, ⟨g2, e _ _ s6 n6, fun t ht => ⟨(s7 t ht).1, (s7 t ht).2.exw e (n7 t ht) (fun j hj => n8 t j ht hj)⟩⟩, s8, s9⟩
theorem SM.ex (hS : SM h q σ) (e : Ex h h') : SM h' q σ := by
  obtain ⟨s1, s2, s3, ⟨g1, s4, s5⟩, ⟨g2, s6, s7⟩, s8, s9⟩ := hS
  refine ⟨e _ _ s1, e _ _ s2, e _ _ s3, ⟨g1, e _ _ s4, fun t ht => ⟨(s5 t ht).1, ?_⟩⟩, ⟨g2, e _ _ s6, fun t ht => ⟨(s7 t ht).1, (s7 t ht).2.ex e⟩⟩, s8, s9⟩
  obtain ⟨f, e1, e2⟩ := (s5 t ht).2
  exact ⟨f, e _ _ e1, e2⟩
theorem SM.qla_c (hS : SM h q σ) {t : Nat} (ht : t < 8) : ∃ n g, h (qla q t) = some (.inl (2, n, .inr (.inr (.inr (.inr g))))) := by
  obtain ⟨s1, s2, s3, ⟨g1, s4, s5⟩, ⟨g2, s6, s7⟩, s8, s9⟩ := hS
  obtain ⟨⟨g, e1, e2⟩, -⟩ := (s7 t ht).2
  exact ⟨_, g, e1⟩
theorem SM.qrr_c (hS : SM h q σ) {t i : Nat} (ht : t < 8) (hi : i < gm σ t) : ∃ f, h (qrr q t i) = some (.inl (0, 4, .inl f)) := by
  obtain ⟨s1, s2, s3, ⟨g1, s4, s5⟩, ⟨g2, s6, s7⟩, s8, s9⟩ := hS
  obtain ⟨f, e1, e2⟩ := (s7 t ht).2.2 i hi
  exact ⟨f, e1⟩
theorem SM.qtr_c (hS : SM h q σ) {t : Nat} (ht : t < gT σ) : ∃ f, h (qtr q t) = some (.inl (0, 2, .inl f)) := by
  obtain ⟨s1, s2, s3, ⟨g1, s4, s5⟩, ⟨g2, s6, s7⟩, s8, s9⟩ := hS
  obtain ⟨f, e1, e2⟩ := (s5 t ht).2
  exact ⟨f, e1⟩
/-- the object's numbers -/
theorem SM.ymd (hS : SM h q σ) {y : Nat} {me de : Int32} (hA : h' (qo q) = some (.inr (4, [.ref (qth q), .ref (qhe q), .ref (qta q), .ref (qli q), .int (nI y), .int me, .int de]))) (e : Exw (qo q) h h') : SM h' q (sYmd σ y me de) := by
  have hS0 := hS
  obtain ⟨s1, s2, s3, ⟨g1, s4, s5⟩, ⟨g2, s6, s7⟩, s8, s9⟩ := hS
  refine ⟨hA, e _ _ s2 (nek s2 s1 nofun), e _ _ s3 (nek s3 s1 nofun), ⟨g1, e _ _ s4 (nek s4 s1 nofun), fun t ht => ⟨(s5 t ht).1, ?_⟩⟩, ⟨g2, e _ _ s6 (nek s6 s1 nofun), fun t ht => ⟨(s7 t ht).1, (s7 t ht).2.exk e s1 ⟨nofun, nofun⟩⟩⟩, s8, s9⟩
  exact (s5 t ht).2.exw e ((s5 t ht).2.ne s1 nofun)
theorem SM.th (hS : SM h q σ) {th : Nat → Int32} (hA : h' (qth q) = some (.inl (1, 8, .inl th))) (e : Exw (qth q) h h') : SM h' q (sTh σ th) := by
  obtain ⟨s1, s2, s3, ⟨g1, s4, s5⟩, ⟨g2, s6, s7⟩, s8, s9⟩ := hS
  refine ⟨e _ _ s1 (nek s1 s2 nofun), hA, e _ _ s3 (nek s3 s2 nofun), ⟨g1, e _ _ s4 (nek s4 s2 nofun), fun t ht => ⟨(s5 t ht).1, ?_⟩⟩, ⟨g2, e _ _ s6 (nek s6 s2 nofun), fun t ht => ⟨(s7 t ht).1, (s7 t ht).2.exk e s2 ⟨nofun, nofun⟩⟩⟩, s8, s9⟩
  exact (s5 t ht).2.exw e ((s5 t ht).2.ne s2 nofun)
theorem SM.he (hS : SM h q σ) {he : Nat → Int32} (hA : h' (qhe q) = some (.inl (0, 10, .inl he))) (e : Exw (qhe q) h h') : SM h' q (sHe σ he) := by
  obtain ⟨s1, s2, s3, ⟨g1, s4, s5⟩, ⟨g2, s6, s7⟩, s8, s9⟩ := hS
  refine ⟨e _ _ s1 (nek s1 s3 nofun), e _ _ s2 (nek s2 s3 nofun), hA, ⟨g1, e _ _ s4 (nek s4 s3 nofun), fun t ht => ⟨(s5 t ht).1, ?_⟩⟩, ⟨g2, e _ _ s6 (nek s6 s3 nofun), fun t ht => ⟨(s7 t ht).1, (s7 t ht).2.exk e s3 ⟨nofun, nofun⟩⟩⟩, s8, s9⟩
  exact (s5 t ht).2.exw e ((s5 t ht).2.ne s3 nofun)
/-- a tablet carried -/
theorem SM.cy (hS : SM h q σ) {t : Nat} (ht : t < gT σ) {f : Nat → Int32} {c : Int32} (hA : h' (qtr q t) = some (.inl (0, 2, .inl f))) (f0 : f 0 = gha σ t) (f1 : f 1 = c) (e : Exw (qtr q t) h h') : SM h' q (sTab σ t (gha σ t) c (gn σ t) (gDD σ t) (gC σ t) (gM σ t) (gW σ t)) := by
  have hS0 := hS
  obtain ⟨s1, s2, s3, ⟨g1, s4, s5⟩, ⟨g2, s6, s7⟩, s8, s9⟩ := hS
  obtain ⟨f9, w9⟩ := hS0.qtr_c ht
  have eu : ∀ {α : Type} (g : Nat → α) (u : Nat), va_up g t (g t) u = g u := fun g u => by
    by_cases z : u = t
    · rw [z, va_up_self]
    · exact va_up_ne _ _ z
  have key : SM h' q (gth σ, gT σ, gha σ, va_up (gce σ) t c, gn σ, (gDD σ, gC σ, gM σ, gW σ), ghe σ, gy σ, gme σ, gde σ) := by
    refine ⟨e _ _ s1 (nek s1 w9 nofun), e _ _ s2 (nek s2 w9 nofun), e _ _ s3 (nek s3 w9 nofun), ⟨g1, e _ _ s4 (nek s4 w9 nofun), fun u hu => ⟨(s5 u hu).1, ?_⟩⟩, ⟨g2, e _ _ s6 (nek s6 w9 nofun), fun t ht => ⟨(s7 t ht).1, (s7 t ht).2.exk e w9 ⟨nofun, nofun⟩⟩⟩, s8, s9⟩
    show Row2 h' (qtr q u) (gha σ u) (va_up (gce σ) t c u)
    by_cases z : u = t
    · rw [z, va_up_self]
      exact ⟨f, hA, f0, f1⟩
    · rw [va_up_ne _ _ z]
      exact (s5 u hu).2.exw e (fun z2 => z (s8 u t hu ht z2))
  refine key.cg rfl rfl rfl rfl rfl rfl fun u hu => ⟨eu (gha σ) u, rfl, eu (gn σ) u, fun j hj => ⟨?_, ?_, ?_, ?_⟩⟩
  · exact (congrFun (eu (gDD σ) u) j).symm
  · exact (congrFun (eu (gC σ) u) j).symm
  · exact (congrFun (eu (gM σ) u) j).symm
  · exact (congrFun (eu (gW σ) u) j).symm
/-- a line's amount -/
theorem SM.row (hS : SM h q σ) {t l : Nat} (ht : t < gT σ) (h8 : gT σ ≤ 8) (hl : l < gn σ t) {f : Nat → Int32} {x : Int32} (hA : h' (qrr q t l) = some (.inl (0, 4, .inl f))) (f0 : f 0 = gDD σ t l) (f1 : f 1 = gC σ t l) (f2 : f 2 = x) (f3 : f 3 = gW σ t l) (e : Exw (qrr q t l) h h') : SM h' q (sLess σ t l x) := by
  have hS0 := hS
  obtain ⟨s1, s2, s3, ⟨g1, s4, s5⟩, ⟨g2, s6, s7⟩, s8, s9⟩ := hS
  have t8 : t < 8 := by omega
  obtain ⟨f9, w9⟩ := hS0.qrr_c t8 (i := l) (by rw [gm_in ht]; exact hl)
  have eu : ∀ {α : Type} (g : Nat → α) (u : Nat), va_up g t (g t) u = g u := fun g u => by
    by_cases z : u = t
    · rw [z, va_up_self]
    · exact va_up_ne _ _ z
  have key : SM h' q (gth σ, gT σ, gha σ, gce σ, gn σ, (gDD σ, gC σ, va_up (gM σ) t (upd (gM σ t) l x), gW σ), ghe σ, gy σ, gme σ, gde σ) := by
    refine ⟨e _ _ s1 (nek s1 w9 nofun), e _ _ s2 (nek s2 w9 nofun), e _ _ s3 (nek s3 w9 nofun), ⟨g1, e _ _ s4 (nek s4 w9 nofun), fun u hu => ⟨(s5 u hu).1, ?_⟩⟩, ⟨g2, e _ _ s6 (nek s6 w9 nofun), fun u hu => ⟨(s7 u hu).1, ?_⟩⟩, s8, s9⟩
    · exact (s5 u hu).2.exw e ((s5 u hu).2.ne w9 nofun)
    · obtain ⟨⟨g3, m1, m2⟩, m3⟩ := (s7 u hu).2
      refine ⟨⟨g3, e _ _ m1 (nek m1 w9 nofun), m2⟩, fun j hj => ?_⟩
      have hj : j < gm σ u := hj
      show Row h' (qrr q u j) (gDD σ u j) (gC σ u j) (va_up (gM σ) t (upd (gM σ t) l x) u j) (gW σ u j)
      by_cases z : u = t ∧ j = l
      · rw [z.1, z.2, va_up_self, upd_s]
        exact ⟨f, hA, f0, f1, f2, f3⟩
      · have ez : va_up (gM σ) t (upd (gM σ t) l x) u j = gM σ u j := by
          by_cases z1 : u = t
          · rw [z1, va_up_self]
            exact upd_n fun z2 => z ⟨z1, z2⟩
          · rw [va_up_ne _ _ z1]
        rw [ez]
        obtain ⟨fr, r1, r2⟩ := m3 j hj
        exact ⟨fr, e _ _ r1 (fun z2 => z (s9 u t j l hu t8 hj (by rw [gm_in ht]; exact hl) z2)), r2⟩
  refine key.cg rfl rfl rfl rfl rfl rfl fun u hu => ⟨eu (gha σ) u, eu (gce σ) u, eu (gn σ) u, fun j hj => ⟨?_, ?_, rfl, ?_⟩⟩
  · exact (congrFun (eu (gDD σ) u) j).symm
  · exact (congrFun (eu (gC σ) u) j).symm
  · exact (congrFun (eu (gW σ) u) j).symm
abbrev qlines (q : QA) (t a : Nat) (R : Nat → Nat) : QA := (q.1, qtr q, va_up (qla q) t a, va_up (qrr q) t R)
/-- a tablet's lines, all at once; h0: the heap before any of the new rows was made -/
theorem SM.lines {h0 : Hp} (hS : SM h q σ) {t n a : Nat} (ht : t < gT σ) (h8 : gT σ ≤ 8) {R : Nat → Nat} {D C M W : Nat → Int32} {g : Nat → Option Nat} (hg : h (qli q) = some (.inl (4, 8, .inr (.inr (.inr (.inr g)))))) (hA : h' (qli q) = some (.inl (4, 8, .inr (.inr (.inr (.inr (va_up g t (some a)))))))) (hR : Rows h' a n R D C M W) (e : Exw (qli q) h h')
    (i1 : ∀ i j, i < n → j < n → R i = R j → i = j) (i2 : ∀ j, j < n → h0 (R j) = none ∨ ∃ i, i < gn σ t ∧ R j = qrr q t i) (hS0 : SM h0 q σ) : SM h' (qlines q t a R) (sTab σ t (gha σ t) (gce σ t) n D C M W) := by
  have hSk := hS
  obtain ⟨s1, s2, s3, ⟨g1, s4, s5⟩, ⟨g2, s6, s7⟩, s8, s9⟩ := hS
  have hgg : g = g2 := by
    have := Option.some.inj (hg.symm.trans s6)
    simpa using this
  subst hgg
  have eu : ∀ {α : Type} (g : Nat → α) (u : Nat), va_up g t (g t) u = g u := fun g u => by
    by_cases z : u = t
    · rw [z, va_up_self]
    · exact va_up_ne _ _ z
  have gmt : gm (sTab σ t (gha σ t) (gce σ t) n D C M W) t = n := by
    show (if t < gT σ then va_up (gn σ) t n t else 0) = n
    rw [if_pos ht, va_up_self]
  have gmu : ∀ u, u ≠ t → gm (sTab σ t (gha σ t) (gce σ t) n D C M W) u = gm σ u := fun u hu => by
    show (if u < gT σ then va_up (gn σ) t n u else 0) = _
    rw [va_up_ne _ _ hu]
  refine ⟨e _ _ s1 (nek s1 s6 nofun), e _ _ s2 (nek s2 s6 nofun), e _ _ s3 (nek s3 s6 nofun), ⟨g1, e _ _ s4 (nek s4 s6 nofun), fun u hu => ⟨(s5 u hu).1, ?_⟩⟩, ⟨_, hA, fun u hu => ?_⟩, s8, ?_⟩
  · show Row2 h' (qtr q u) (va_up (gha σ) t (gha σ t) u) (va_up (gce σ) t (gce σ t) u)
    rw [eu, eu]
    exact (s5 u hu).2.exw e ((s5 u hu).2.ne s6 nofun)
  · show va_up g t (some a) u = some (va_up (qla q) t a u) ∧ Rows h' (va_up (qla q) t a u) (gm _ u) (va_up (qrr q) t R u) (va_up (gDD σ) t D u) (va_up (gC σ) t C u) (va_up (gM σ) t M u) (va_up (gW σ) t W u)
    by_cases z : u = t
    · rw [z]
      simp only [va_up_self]
      rw [gmt]
      exact ⟨trivial, hR⟩
    · simp only [va_up_ne _ _ z]
      rw [gmu u z]
      exact ⟨(s7 u hu).1, (s7 u hu).2.exk e s6 ⟨nofun, nofun⟩⟩
  · have cross : ∀ u i j, u ≠ t → u < 8 → i < n → j < gm σ u → R i ≠ qrr q u j := by
      intro u i j hut hu hi hj z
      rcases i2 i hi with z2 | ⟨k, hk, z2⟩
      · obtain ⟨f, z3⟩ := hS0.qrr_c hu hj
        rw [← z, z2] at z3
        cases z3
      · rw [z2] at z
        exact hut (s9 t u k j (by omega) hu (by rw [gm_in ht]; exact hk) hj z).1.symm
    intro u v i j hu hv hi hj
    show va_up (qrr q) t R u i = va_up (qrr q) t R v j → _
    by_cases zu : u = t
    · by_cases zv : v = t
      · rw [zu, gmt] at hi
        rw [zv, gmt] at hj
        rw [zu, zv, va_up_self]
        exact fun z => ⟨rfl, i1 i j hi hj z⟩
      · rw [zu, gmt] at hi
        rw [gmu v zv] at hj
        rw [zu, va_up_self, va_up_ne _ _ zv]
        exact fun z => absurd z (cross v i j zv hv hi hj)
    · by_cases zv : v = t
      · rw [gmu u zu] at hi
        rw [zv, gmt] at hj
        rw [zv, va_up_self, va_up_ne _ _ zu]
        exact fun z => absurd z.symm (cross u j i zu hu hj hi)
      · rw [gmu u zu] at hi
        rw [gmu v zv] at hj
        rw [va_up_ne _ _ zu, va_up_ne _ _ zv]
        exact s9 u v i j hu hv hi hj
/-- a tablet added: the object points to the longer array -/
theorem SM.add (hS : SM h q σ) {a b : Nat} {g0 g : Nat → Option Nat} {f : Nat → Int32} {x : Int32} (hg0 : h (qta q) = some (.inl (2, gT σ, .inr (.inr (.inr (.inr g0)))))) (hA : h' (qo q) = some (.inr (4, [.ref (qth q), .ref (qhe q), .ref a, .ref (qli q), .int (nI (gy σ)), .int (gme σ), .int (gde σ)]))) (ha : h' a = some (.inl (2, gT σ + 1, .inr (.inr (.inr (.inr g)))))) (hg : ∀ t, t < gT σ → g t = g0 t) (hgT : g (gT σ) = some b) (hb : h' b = some (.inl (0, 2, .inl f))) (f0 : f 0 = x) (f1 : f 1 = 0) (hbn : h b = none) (e : Exw (qo q) h h') :
    SM h' ((qo q, qth q, qhe q, a, qli q), va_up (qtr q) (gT σ) b, qla q, qrr q) (sAdd σ x) := by
  have hSk := hS
  obtain ⟨s1, s2, s3, ⟨g1, s4, s5⟩, ⟨g2, s6, s7⟩, s8, s9⟩ := hS
  have hgg : g0 = g1 := by
    have := Option.some.inj (hg0.symm.trans s4)
    simpa using this
  subst hgg
  have gmu : ∀ u, gm (sAdd σ x) u = gm σ u := fun u => by
    show (if u < gT σ + 1 then va_up (gn σ) (gT σ) 0 u else 0) = if u < gT σ then gn σ u else 0
    by_cases z : u < gT σ
    · rw [if_pos z, if_pos (by omega), va_up_ne _ _ (by omega)]
    · rw [if_neg z]
      by_cases z2 : u < gT σ + 1
      · rw [if_pos z2, show u = gT σ by omega, va_up_self]
      · rw [if_neg z2]
  refine ⟨hA, e _ _ s2 (nek s2 s1 nofun), e _ _ s3 (nek s3 s1 nofun), ⟨g, ha, fun u hu => ?_⟩, ⟨g2, e _ _ s6 (nek s6 s1 nofun), fun u hu => ⟨(s7 u hu).1, ?_⟩⟩, fun u v hu hv => ?_, fun u v i j hu hv => ?_⟩
  · have hu : u < gT σ + 1 := hu
    show g u = some (va_up (qtr q) (gT σ) b u) ∧ Row2 h' (va_up (qtr q) (gT σ) b u) (va_up (gha σ) (gT σ) x u) (va_up (gce σ) (gT σ) 0 u)
    by_cases z : u = gT σ
    · rw [z]
      simp only [va_up_self]
      exact ⟨hgT, f, hb, f0, f1⟩
    · simp only [va_up_ne _ _ z]
      have hu' : u < gT σ := by omega
      exact ⟨(hg u hu').trans (s5 u hu').1, (s5 u hu').2.exw e ((s5 u hu').2.ne s1 nofun)⟩
  · have k := (s7 u hu).2.exk e s1 ⟨nofun, nofun⟩
    rw [gmu]
    refine k.cg fun j hj => ?_
    have hne : u ≠ gT σ := fun z => by
      unfold gm at hj
      rw [if_neg (by omega)] at hj
      exact Nat.not_lt_zero j hj
    show _ = va_up (gDD σ) (gT σ) _ u j ∧ _ = va_up (gC σ) (gT σ) _ u j ∧ _ = va_up (gM σ) (gT σ) _ u j ∧ _ = va_up (gW σ) (gT σ) _ u j
    simp only [va_up_ne _ _ hne]
    exact ⟨trivial, trivial, trivial, trivial⟩
  · have hu : u < gT σ + 1 := hu
    have hv : v < gT σ + 1 := hv
    show va_up (qtr q) (gT σ) b u = va_up (qtr q) (gT σ) b v → _
    have nb : ∀ w, w < gT σ → qtr q w ≠ b := fun w hw z => by
      obtain ⟨f9, z9⟩ := hSk.qtr_c hw
      rw [z, hbn] at z9
      cases z9
    by_cases zu : u = gT σ
    · by_cases zv : v = gT σ
      · exact fun _ => zu.trans zv.symm
      · rw [zu, va_up_self, va_up_ne _ _ zv]
        exact fun z => absurd z.symm (nb v (by omega))
    · by_cases zv : v = gT σ
      · rw [zv, va_up_self, va_up_ne _ _ zu]
        exact fun z => absurd z (nb u (by omega))
      · rw [va_up_ne _ _ zu, va_up_ne _ _ zv]
        exact s8 u v (by omega) (by omega)
  · rw [gmu, gmu]
    exact s9 u v i j hu hv
end Sm
