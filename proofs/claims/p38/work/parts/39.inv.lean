/-! ===== what holds between the acts ===== -/
/-- amounts: 1 at least, S together on a tablet at the most -/
def Am (σ : Sg) (S : Int) : Prop := ∀ t, t < gT σ → (∀ l, l < gn σ t → 0 < (gM σ t l).toInt) ∧ smM (gM σ t) (gn σ t) ≤ S
abbrev lnQ (D C W : Int32) : Prop := inP D ∧ inP C ∧ inP W ∧ D ≠ C
/-- there and cellar are 0 or 1; lines are between two, with a witness; no more than 12 on a tablet -/
def RI (σ : Sg) : Prop := (∀ p, p < 8 → b01 (gth σ p)) ∧ (∀ t, t < gT σ → b01 (gce σ t)) ∧ (∀ t l, t < gT σ → l < gn σ t → lnQ (gDD σ t l) (gC σ t l) (gW σ t l)) ∧ ∀ t, t < gT σ → gn σ t ≤ 12
section In
variable {σ : Sg} {S : Int}
theorem LnP_of (hR : RI σ) : LnP σ := fun t l ht hl => ⟨(hR.2.2.1 t l ht hl).1, (hR.2.2.1 t l ht hl).2.1⟩
theorem ok_of (hR : RI σ) (hA : Am σ S) (hS : S ≤ 1073741824) {t : Nat} (ht : t < gT σ) : okB (smM (gM σ t) (gn σ t)) (gbal σ t) :=
  bal_ok (gn σ t) (fun j hj => by
    obtain ⟨h1, h2, -, h3⟩ := hR.2.2.1 t j ht hj
    exact ⟨h1, h2, h3, (hA t ht).1 j hj⟩) (Int.le_trans (hA t ht).2 hS)
theorem plq_of (hR : RI σ) (hA : Am σ S) (hS : S ≤ 1073741824) {t : Nat} (ht : t < gT σ) {s : PS} (hg : ∀ p, p < 8 → pB s p = gbal σ t p) (hn : pn s = 0) : rowQ (pl (gth σ) 8 s).2 ∧ smM (pM (pl (gth σ) 8 s).2) (pn (pl (gth σ) 8 s).2) ≤ S ∧ pn (pl (gth σ) 8 s).2 ≤ 8 := by
  obtain ⟨h1, h2⟩ := pl_Q (th := gth σ) 8 _ s ((ok_of hR hA hS ht).cg hg) (Int.le_trans (hA t ht).2 hS) (fun j hj => by
    rw [hn] at hj
    exact absurd hj (Nat.not_lt_zero j))
  have h3 := pl_n (th := gth σ) 8 s
  rw [hn] at h2 h3
  have e0 : smM (pM s) 0 = 0 := rfl
  have h4 := (hA t ht).2
  exact ⟨h1, by omega, by omega⟩
theorem pos_of (hA : Am σ S) : ∀ t l, t < gT σ → l < gn σ t → ¬ gM σ t l < 0 := fun t l ht hl q => by
  have h1 := Int32.lt_iff_toInt_lt.mp q
  rw [t_0] at h1
  have h2 := (hA t ht).1 l hl
  omega
theorem Am.up {S' : Int} (hA : Am σ S) (h : S ≤ S') : Am σ S' := fun t ht => ⟨(hA t ht).1, Int.le_trans (hA t ht).2 h⟩
theorem Am.tab (hA : Am σ S) {t : Nat} {ha ce : Int32} {n : Nat} {D C M W : Nat → Int32} (h1 : ∀ l, l < n → 0 < (M l).toInt) (h2 : smM M n ≤ S) : Am (sTab σ t ha ce n D C M W) S := by
  intro t' ht'
  show (∀ l, l < va_up (gn σ) t n t' → 0 < (va_up (gM σ) t M t' l).toInt) ∧ smM (va_up (gM σ) t M t') (va_up (gn σ) t n t') ≤ S
  by_cases e : t' = t
  · rw [e, vu_s, vu_s]
    exact ⟨h1, h2⟩
  · rw [vu_n e, vu_n e]
    exact hA t' ht'
theorem Am.cy (hA : Am σ S) {t : Nat} (ht : t < gT σ) {c : Int32} : Am (sTab σ t (gha σ t) c (gn σ t) (gDD σ t) (gC σ t) (gM σ t) (gW σ t)) S := hA.tab (hA t ht).1 (hA t ht).2
theorem Am.ymd (hA : Am σ S) {y : Nat} {me de : Int32} : Am (sYmd σ y me de) S := fun t ht => hA t ht
theorem Am.th (hA : Am σ S) {th : Nat → Int32} : Am (sTh σ th) S := fun t ht => hA t ht
theorem Am.he (hA : Am σ S) {he : Nat → Int32} : Am (sHe σ he) S := fun t ht => hA t ht
theorem Am.add (hA : Am σ S) (h0 : 0 ≤ S) {x : Int32} : Am (sAdd σ x) S := by
  intro t ht
  have ht : t < gT σ + 1 := ht
  show (∀ l, l < va_up (gn σ) (gT σ) 0 t → 0 < (va_up (gM σ) (gT σ) (fun _ => 0) t l).toInt) ∧ smM (va_up (gM σ) (gT σ) (fun _ => 0) t) (va_up (gn σ) (gT σ) 0 t) ≤ S
  by_cases e : t = gT σ
  · rw [e, vu_s, vu_s]
    exact ⟨fun l hl => absurd hl (Nat.not_lt_zero l), h0⟩
  · rw [vu_n e, vu_n e]
    exact hA t (by omega)
theorem t_le {x y : Int32} (h : x ≤ y) : x.toInt ≤ y.toInt := Int32.le_iff_toInt_le.mp h
theorem t_nlt {x y : Int32} (h : ¬ x < y) : y.toInt ≤ x.toInt := Int.not_lt.mp fun q => h (Int32.lt_iff_toInt_lt.mpr q)
theorem Am.wr (hA : Am σ S) {t : Nat} (ht : t < gT σ) {xd xc xa xw : Int32} (h : wr2 xd xc xa xw) : Am (sWrite σ t xd xc xa xw) (S + 999) := by
  have h1 := t_nlt h.2.1
  have h2 := t_le h.2.2
  have e1 : (1 : Int32).toInt = 1 := by decide +kernel
  have e2 : (999 : Int32).toInt = 999 := by decide +kernel
  rw [e1] at h1
  rw [e2] at h2
  obtain ⟨g1, g2⟩ := hA t ht
  refine (hA.up (by omega)).tab (fun l hl => ?_) ?_
  · by_cases e : l = gn σ t
    · rw [e, upd_s]
      omega
    · rw [upd_n e]
      exact g1 l (by omega)
  · show sI (fun j => (upd (gM σ t) (gn σ t) xa j).toInt) (gn σ t) + (upd (gM σ t) (gn σ t) xa (gn σ t)).toInt ≤ S + 999
    rw [upd_s, sI_cg (gn σ t) (fun q hq => congrArg Int32.toInt (upd_n (f := gM σ t) (v := xa) (show q ≠ gn σ t by omega)))]
    have g2 : sI (fun q => (gM σ t q).toInt) (gn σ t) ≤ S := g2
    omega
theorem shk_sum {M : Nat → Int32} {l K : Nat} : ∀ k, k ≤ K → smM (shk l K M) (l + k) = smM M (l + k + 1) - (M l).toInt
  | 0, _ => by
    show sI (fun j => (shk l K M j).toInt) l = sI (fun j => (M j).toInt) l + (M l).toInt - (M l).toInt
    rw [sI_cg (f := fun j => (shk l K M j).toInt) (g := fun j => (M j).toInt) l (fun q hq => by
      unfold shk
      rw [if_neg (by omega)])]
    omega
  | k + 1, hk => by
    have ih := shk_sum (M := M) (l := l) (K := K) k (by omega)
    have e : shk l K M (l + k) = M (l + k + 1) := by
      unfold shk
      rw [if_pos ⟨by omega, by omega⟩]
    show smM (shk l K M) (l + k) + (shk l K M (l + k)).toInt = smM M (l + k + 1) + (M (l + k + 1)).toInt - (M l).toInt
    rw [e, ih]
    omega
theorem Am.tk (hA : Am σ S) {t l : Nat} (ht : t < gT σ) (hl : l < gn σ t) : Am (sTake σ t l) S := by
  obtain ⟨g1, g2⟩ := hA t ht
  refine hA.tab (fun j hj => ?_) ?_
  · unfold shk
    split
    · exact g1 _ (by omega)
    · exact g1 _ (by omega)
  · have h := shk_sum (M := gM σ t) (l := l) (K := gn σ t - 1 - l) (gn σ t - 1 - l) (Nat.le_refl _)
    rw [show l + (gn σ t - 1 - l) = gn σ t - 1 by omega, show gn σ t - 1 + 1 = gn σ t by omega] at h
    have := g1 l hl
    omega
theorem Am.ls (hA : Am σ S) {t l : Nat} (ht : t < gT σ) (hl : l < gn σ t) {x : Int32} (h1 : 0 < x.toInt) (h2 : x.toInt ≤ (gM σ t l).toInt) : Am (sLess σ t l x) S := by
  obtain ⟨g1, g2⟩ := hA t ht
  refine hA.tab (fun j hj => ?_) ?_
  · by_cases e : j = l
    · rw [e, upd_s]
      exact h1
    · rw [upd_n e]
      exact g1 j hj
  · have h := sI_1 (f := fun j => (gM σ t j).toInt) (g := fun j => (upd (gM σ t) l x j).toInt) (d := l) (gn σ t) (fun q _ hq => congrArg Int32.toInt (upd_n hq))
    rw [if_pos hl, upd_s] at h
    show sI (fun j => (upd (gM σ t) l x j).toInt) (gn σ t) ≤ S
    have g2 : sI (fun j => (gM σ t j).toInt) (gn σ t) ≤ S := g2
    omega
theorem Am.py (hA : Am σ S) {t l : Nat} (ht : t < gT σ) (hl : l < gn σ t) {a : Int32} (h1 : ¬ a < 1) (h2 : a ≤ gM σ t l) : Am (sPay σ t l a) S := by
  have h1 := t_nlt h1
  have h2 := t_le h2
  have e1 : (1 : Int32).toInt = 1 := by decide +kernel
  rw [e1] at h1
  have h3 := (hA t ht).1 l hl
  have h4 := Int32.toInt_lt (gM σ t l)
  have e : (gM σ t l - a).toInt = (gM σ t l).toInt - a.toInt := t_sub (by omega) (by omega)
  unfold sPay
  by_cases z : gM σ t l - a = 0
  · rw [if_pos z]
    exact hA.tk ht hl
  · rw [if_neg z]
    have : (gM σ t l - a).toInt ≠ 0 := fun q => z (Int32.toInt_inj.mp (q.trans t_0.symm))
    exact hA.ls ht hl (by omega) (by omega)
theorem Am.dy (hA : Am σ S) {t l : Nat} (ht : t < gT σ) (hl : l < gn σ t) : Am (sDeny σ t l) S := (hA.tk ht hl).ymd
theorem Am.mt (hA : Am σ S) (h0 : 0 ≤ S) {i : Nat} : Am (sMelt σ i) S := by
  intro t ht
  show (∀ l, l < (if t < i ∧ mlt σ t then 0 else gn σ t) → 0 < (gM σ t l).toInt) ∧ smM (gM σ t) (if t < i ∧ mlt σ t then 0 else gn σ t) ≤ S
  split
  · exact ⟨fun l hl => absurd hl (Nat.not_lt_zero l), h0⟩
  · exact hA t ht
theorem Am.yr (hA : Am σ S) (h0 : 0 ≤ S) : ∀ n, Am (yrN n σ) S
  | 0 => hA
  | n + 1 => ((Am.yr hA h0 n).mt h0).ymd
theorem Am.ps (hA : Am σ S) (h0 : 0 ≤ S) {n : Nat} : Am (sPass σ n) S := (hA.yr h0 n).ymd
theorem Am.sm (hR : RI σ) (hA : Am σ S) (hS : S ≤ 1073741824) {t : Nat} (ht : t < gT σ) {P : PS} : Am (sSm σ P t) S := by
  obtain ⟨h1, h2, h3⟩ := plq_of hR hA hS ht (s := pl0 (gDD σ t) (gC σ t) (gM σ t) (gn σ t) P) (fun _ _ => rfl) rfl
  have h1 : rowQ (smP σ P t) := h1
  have h2 : smM (pM (smP σ P t)) (pn (smP σ P t)) ≤ S := h2
  have e : ∀ j, j < pn (smP σ P t) → mxk (pn (smP σ P t)) (pM (smP σ P t)) (gM σ t) j = pM (smP σ P t) j := fun j hj => if_pos hj
  refine hA.tab (fun j hj => ?_) ?_
  · rw [e j hj]
    exact (h1 j hj).2.2.2.2
  · show sI (fun j => (mxk (pn (smP σ P t)) (pM (smP σ P t)) (gM σ t) j).toInt) (pn (smP σ P t)) ≤ S
    rw [sI_cg (pn (smP σ P t)) (fun q hq => congrArg Int32.toInt (e q hq))]
    exact h2
theorem RI.tab (hR : RI σ) {t : Nat} {ha ce : Int32} {n : Nat} {D C M W : Nat → Int32} (h0 : b01 ce) (h1 : ∀ l, l < n → lnQ (D l) (C l) (W l)) (h2 : n ≤ 12) : RI (sTab σ t ha ce n D C M W) := by
  obtain ⟨g1, g2, g3, g4⟩ := hR
  refine ⟨g1, fun u hu => ?_, fun u l hu => ?_, fun u hu => ?_⟩
  · show b01 (va_up (gce σ) t ce u)
    by_cases e : u = t
    · rw [e, vu_s]
      exact h0
    · rw [vu_n e]
      exact g2 u hu
  · show l < va_up (gn σ) t n u → lnQ (va_up (gDD σ) t D u l) (va_up (gC σ) t C u l) (va_up (gW σ) t W u l)
    by_cases e : u = t
    · rw [e, vu_s, vu_s, vu_s, vu_s]
      exact h1 l
    · rw [vu_n e, vu_n e, vu_n e, vu_n e]
      exact g3 u l hu
  · show va_up (gn σ) t n u ≤ 12
    by_cases e : u = t
    · rw [e, vu_s]
      exact h2
    · rw [vu_n e]
      exact g4 u hu
theorem RI.ymd (hR : RI σ) {y : Nat} {me de : Int32} : RI (sYmd σ y me de) := hR
theorem RI.he (hR : RI σ) {he : Nat → Int32} : RI (sHe σ he) := hR
theorem RI.th (hR : RI σ) {p : Nat} {x : Int32} (h : b01 x) : RI (sTh σ (upd (gth σ) p x)) := by
  obtain ⟨g1, g2, g3, g4⟩ := hR
  refine ⟨fun u hu => ?_, g2, g3, g4⟩
  show b01 (upd (gth σ) p x u)
  by_cases e : u = p
  · rw [e, upd_s]
    exact h
  · rw [upd_n e]
    exact g1 u hu
theorem RI.cy (hR : RI σ) {t : Nat} (ht : t < gT σ) {c : Int32} (h : b01 c) : RI (sTab σ t (gha σ t) c (gn σ t) (gDD σ t) (gC σ t) (gM σ t) (gW σ t)) := hR.tab h (fun l hl => hR.2.2.1 t l ht hl) (hR.2.2.2 t ht)
theorem RI.add (hR : RI σ) {x : Int32} : RI (sAdd σ x) := by
  obtain ⟨g1, g2, g3, g4⟩ := hR
  refine ⟨g1, fun u hu => ?_, fun u l hu => ?_, fun u hu => ?_⟩
  · have hu : u < gT σ + 1 := hu
    show b01 (va_up (gce σ) (gT σ) 0 u)
    by_cases e : u = gT σ
    · rw [e, vu_s]
      exact Or.inl rfl
    · rw [vu_n e]
      exact g2 u (by omega)
  · have hu : u < gT σ + 1 := hu
    show l < va_up (gn σ) (gT σ) 0 u → lnQ (va_up (gDD σ) (gT σ) _ u l) (va_up (gC σ) (gT σ) _ u l) (va_up (gW σ) (gT σ) _ u l)
    by_cases e : u = gT σ
    · rw [e, vu_s]
      exact fun h => absurd h (Nat.not_lt_zero l)
    · rw [vu_n e, vu_n e, vu_n e, vu_n e]
      exact g3 u l (by omega)
  · have hu : u < gT σ + 1 := hu
    show va_up (gn σ) (gT σ) 0 u ≤ 12
    by_cases e : u = gT σ
    · rw [e, vu_s]
      exact Nat.zero_le _
    · rw [vu_n e]
      exact g4 u (by omega)
theorem RI.wr (hR : RI σ) {t : Nat} (ht : t < gT σ) {d c a w : Int32} (h : lnQ d c w) (hn : gn σ t < 12) : RI (sWrite σ t d c a w) := by
  refine hR.tab (hR.2.1 t ht) (fun l hl => ?_) (by omega)
  by_cases e : l = gn σ t
  · rw [e, upd_s, upd_s, upd_s]
    exact h
  · rw [upd_n e, upd_n e, upd_n e]
    exact hR.2.2.1 t l ht (by omega)
/-- what stands at j once l is taken out -/
theorem shk_at {f : Nat → Int32} {n l j : Nat} (hl : l < n) (hj : j < n - 1) : shk l (n - 1 - l) f j = f (if j < l then j else j + 1) := by
  unfold shk
  by_cases z : j < l
  · rw [if_pos z, if_neg (by omega)]
  · rw [if_neg z, if_pos ⟨by omega, by omega⟩]
theorem RI.tk (hR : RI σ) {t l : Nat} (ht : t < gT σ) (hl : l < gn σ t) : RI (sTake σ t l) := by
  have h12 := hR.2.2.2 t ht
  refine hR.tab (hR.2.1 t ht) (fun j hj => ?_) (by omega)
  rw [shk_at hl hj, shk_at hl hj, shk_at hl hj]
  exact hR.2.2.1 t _ ht (by split <;> omega)
theorem RI.ls (hR : RI σ) {t l : Nat} (ht : t < gT σ) {x : Int32} : RI (sLess σ t l x) := hR.tab (hR.2.1 t ht) (fun j hj => hR.2.2.1 t j ht hj) (hR.2.2.2 t ht)
theorem RI.py (hR : RI σ) {t l : Nat} (ht : t < gT σ) (hl : l < gn σ t) {a : Int32} : RI (sPay σ t l a) := by
  unfold sPay
  split
  · exact hR.tk ht hl
  · exact hR.ls ht
theorem RI.dy (hR : RI σ) {t l : Nat} (ht : t < gT σ) (hl : l < gn σ t) : RI (sDeny σ t l) := hR.tk ht hl
theorem RI.mt (hR : RI σ) {i : Nat} : RI (sMelt σ i) := by
  obtain ⟨g1, g2, g3, g4⟩ := hR
  refine ⟨g1, g2, fun u l hu => ?_, fun u hu => ?_⟩
  · show l < (if u < i ∧ mlt σ u then 0 else gn σ u) → _
    split
    · exact fun h => absurd h (Nat.not_lt_zero l)
    · exact g3 u l hu
  · show (if u < i ∧ mlt σ u then 0 else gn σ u) ≤ 12
    split
    · exact Nat.zero_le _
    · exact g4 u hu
theorem RI.yr (hR : RI σ) : ∀ n, RI (yrN n σ)
  | 0 => hR
  | n + 1 => (RI.yr hR n).mt
theorem RI.ps (hR : RI σ) {n : Nat} : RI (sPass σ n) := hR.yr n
theorem RI.sm (hR : RI σ) (hA : Am σ S) (hS : S ≤ 1073741824) {t : Nat} (ht : t < gT σ) {P : PS} : RI (sSm σ P t) := by
  obtain ⟨h1, h2, h3⟩ := plq_of hR hA hS ht (s := pl0 (gDD σ t) (gC σ t) (gM σ t) (gn σ t) P) (fun _ _ => rfl) rfl
  have h1 : rowQ (smP σ P t) := h1
  have h3 : pn (smP σ P t) ≤ 8 := h3
  refine hR.tab (hR.2.1 t ht) (fun j hj => ?_) (by omega)
  rw [show mxk (pn (smP σ P t)) (pD (smP σ P t)) (gDD σ t) j = _ from if_pos hj, show mxk (pn (smP σ P t)) (pC (smP σ P t)) (gC σ t) j = _ from if_pos hj, show mxk (pn (smP σ P t)) (pW (smP σ P t)) (gW σ t) j = _ from if_pos hj]
  obtain ⟨q1, q2, q3, q4, q5⟩ := h1 j hj
  exact ⟨q1, q2, q3, q4⟩
/-- an amount as a natural -/
theorem Am.nat (hA : Am σ S) {t l : Nat} (ht : t < gT σ) (hl : l < gn σ t) : ∃ m : Nat, gM σ t l = nI m ∧ 1 ≤ m ∧ m < 2 ^ 31 := by
  have h1 := (hA t ht).1 l hl
  rcases pk_ix (gM σ t l) (n := 2147483647) (by decide) with q | q | ⟨j, hj, e⟩
  · rw [Int32.lt_iff_toInt_lt, t_0] at q
    omega
  · refine ⟨2147483647, ?_, by decide, by decide⟩
    rw [Int32.le_iff_toInt_le, nI_toInt (by decide)] at q
    have := Int32.toInt_lt (gM σ t l)
    refine Int32.toInt_inj.mp ?_
    rw [nI_toInt (by decide)]
    omega
  · refine ⟨j, e, ?_, by omega⟩
    rw [e, nI_toInt (by omega)] at h1
    omega
end In
theorem nI_sb {a b : Nat} (h : b ≤ a) : nI a - nI b = nI (a - b) := by
  obtain ⟨c, rfl⟩ : ∃ c, a = c + b := ⟨a - b, by omega⟩
  rw [← nI_add, Int32.add_sub_cancel, Nat.add_sub_cancel]
section Ru
variable {G : Gt} {F : Ft} {Q : State → Prop} {own : String} {cc : ByteArray} {nL : Nat} {ret : Option FieldType} {kc ks pc : Nat} {L : List (Option Value)} {st : List Value} {h : Hp}
/-- the law's own script -/
def SX (G : Gt) (b n : Nat) (xs : Nat → Int32) : Prop := b < gN G ∧ va_X b n xs G.2.1 G.2.1.heap
theorem V.sld (hF : Ok G F own cc nL ret) {b n j : Nat} {xs : Nat → Int32} (hX : SX G b n xs) (hd : decode cc pc = .ok (.iaload, 1)) (hj : j < n) (hn : n < 2 ^ 31) (kk : V G F Q kc ks (pc + 1) L (.int (xs j) :: st) h) : V G F Q kc ks pc L (.int (nI j) :: .ref b :: st) h := by
  intro H locs ls cells slots hR hS hL hz h1 h2
  have hSt : St G (fS F) := hF.2.2.2.2.2.2
  have e : (nI j).toNatClampNeg = j := nI_clamp (Nat.lt_trans hj hn)
  refine va_sld (H0 := (fS F).heap) (A := gF G) hF.1 hF.2.1 ((hX.2.kept (hSt.2.2 b hX.1)).moved hF.W.alike) (Nat.lt_of_lt_of_le hX.1 hSt.2.1) (Nat.not_le.mpr hX.1) hS (vp_in_nI hj hn) hd ?_
  rw [e]
  exact kk H locs ls cells slots hR hS hL hz h1 h2
theorem V.slen (hF : Ok G F own cc nL ret) {b n : Nat} {xs : Nat → Int32} (hX : SX G b n xs) (hd : decode cc pc = .ok (.arraylength, 1)) (kk : V G F Q kc ks (pc + 1) L (.int (nI n) :: st) h) : V G F Q kc ks pc L (.ref b :: st) h := by
  intro H locs ls cells slots hR hS hL hz h1 h2
  have hSt : St G (fS F) := hF.2.2.2.2.2.2
  exact va_slen (H0 := (fS F).heap) (A := gF G) hF.1 hF.2.1 ((hX.2.kept (hSt.2.2 b hX.1)).moved hF.W.alike) (Nat.lt_of_lt_of_le hX.1 hSt.2.1) (Nat.not_le.mpr hX.1) hS hd (kk H locs ls cells slots hR hS hL hz h1 h2)
theorem V.tabIn (hF : Ok G F own cc nL ret) {dflt lo hi : Int} {offs : Array Int} {len : Nat} {x : Int32} {off : Int} {tgt : Nat} (hd : decode cc pc = .ok (.tableswitch dflt lo hi offs, len)) (h1 : ¬ x.toInt < lo) (h2 : ¬ hi < x.toInt) (ho : offs[(x.toInt - lo).toNat]? = some off) (ht : (pc : Int) + off = (tgt : Int)) (kk : V G F Q kc ks tgt L st h) : V G F Q kc ks pc L (.int x :: st) h :=
  fun H locs ls cells slots hR hS hL hz g1 g2 => lv_tableIn hF.1 hF.2.1 hd h1 h2 ho ht (kk H locs ls cells slots hR hS hL hz g1 g2)
theorem V.tabOut (hF : Ok G F own cc nL ret) {dflt lo hi : Int} {offs : Array Int} {len : Nat} {x : Int32} {tgt : Nat} (hd : decode cc pc = .ok (.tableswitch dflt lo hi offs, len)) (h1 : x.toInt < lo ∨ hi < x.toInt) (ht : (pc : Int) + dflt = (tgt : Int)) (kk : V G F Q kc ks tgt L st h) : V G F Q kc ks pc L (.int x :: st) h :=
  fun H locs ls cells slots hR hS hL hz g1 g2 => lv_tableOut hF.1 hF.2.1 hd h1 ht (kk H locs ls cells slots hR hS hL hz g1 g2)
end Ru
