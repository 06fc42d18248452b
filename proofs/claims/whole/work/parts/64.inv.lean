/-! ===== what holds between the calls ===== -/
/-- amounts: 1 at least, S together on a tablet at the most -/
def Am (σ : Sg) (S : Int) : Prop := ∀ t, t < gT σ → (∀ l, l < gn σ t → 0 < (gM σ t l).toInt) ∧ smM (gM σ t) (gn σ t) ≤ S
section In
variable {σ : Sg} {u : Mu} {S : Int}
theorem LnP_of (hR : RM σ u) : LnP σ := fun t l ht hl => by
  obtain ⟨-, -, -, -, -, -, h1, h2, -⟩ := hR.row ht hl
  exact ⟨h1, h2⟩
theorem ok_of (hR : RM σ u) (hA : Am σ S) (hS : S ≤ 1073741824) {t : Nat} (ht : t < gT σ) : okB (smM (gM σ t) (gn σ t)) (gbal σ t) :=
  bal_ok (gn σ t) (fun j hj => by
    obtain ⟨-, -, -, -, -, -, h1, h2, -, h3⟩ := hR.row ht hj
    exact ⟨h1, h2, h3, (hA t ht).1 j hj⟩) (Int.le_trans (hA t ht).2 hS)
theorem PEA_of (hR : RM σ u) (hA : Am σ S) (hS : S ≤ 1073741824) : PEA σ := fun t ht g hg =>
  pe_of 8 _ g (Int.le_trans (hA t ht).2 hS) ((ok_of hR hA hS ht).cg hg) (nz8 g 8)
theorem plq_of (hR : RM σ u) (hA : Am σ S) (hS : S ≤ 1073741824) {t : Nat} (ht : t < gT σ) {s : PS} (hg : ∀ p, p < 8 → pB s p = gbal σ t p) (hn : pn s = 0) : rowQ (pl (gth σ) 8 s).2 ∧ smM (pM (pl (gth σ) 8 s).2) (pn (pl (gth σ) 8 s).2) ≤ S ∧ pn (pl (gth σ) 8 s).2 ≤ 8 := by
  obtain ⟨h1, h2⟩ := pl_Q (th := gth σ) 8 _ s ((ok_of hR hA hS ht).cg hg) (Int.le_trans (hA t ht).2 hS) (fun j hj => by
    rw [hn] at hj
    exact absurd hj (Nat.not_lt_zero j))
  have h3 := pl_n (th := gth σ) 8 s
  rw [hn] at h2 h3
  have e0 : smM (pM s) 0 = 0 := rfl
  have h4 := (hA t ht).2
  exact ⟨h1, by omega, by omega⟩
theorem PLQ_of (hR : RM σ u) (hA : Am σ S) (hS : S ≤ 1073741824) : PLQ σ := fun t ht g md hg r hr => by
  subst hr
  obtain ⟨h1, -, h3⟩ := plq_of hR hA hS ht (s := mPS g md 0) hg rfl
  exact ⟨h3, fun j hj => ⟨(h1 j hj).1, (h1 j hj).2.1, (h1 j hj).2.2.1, (h1 j hj).2.2.2.1⟩⟩
theorem pos_of (hA : Am σ S) : ∀ t l, t < gT σ → l < gn σ t → ¬ gM σ t l < 0 := fun t l ht hl q => by
  have h1 := Int32.lt_iff_toInt_lt.mp q
  rw [t_0] at h1
  have h2 := (hA t ht).1 l hl
  omega
theorem Am.up {S' : Int} (hA : Am σ S) (h : S ≤ S') : Am σ S' := fun t ht => ⟨(hA t ht).1, Int.le_trans (hA t ht).2 h⟩
theorem Am.tab (hA : Am σ S) {t : Nat} {ha ce : Int32} {n : Nat} {D C M W : Nat → Int32} (h1 : ∀ l, l < n → 0 < (M l).toInt) (h2 : smM M n ≤ S) : Am (sTab σ t ha ce n D C M W) S := by
  intro t' ht'
  show (∀ l, l < va_up (gn σ) t n t' → 0 < (va_up (gM σ) t M t' l).toInt) ∧ smM (va_up (gM σ) t M t') (va_up (gn σ) t n t') ≤ S
  by_cases e : t' = t
  · rw [e, vu_s, vu_s]
    exact ⟨h1, h2⟩
  · rw [vu_n e, vu_n e]
    exact hA t' ht'
theorem Am.cy (hA : Am σ S) {t : Nat} (ht : t < gT σ) {c : Int32} : Am (sTab σ t (gha σ t) c (gn σ t) (gDD σ t) (gC σ t) (gM σ t) (gW σ t)) S := hA.tab (hA t ht).1 (hA t ht).2
theorem Am.ymd (hA : Am σ S) {y : Nat} {me de : Int32} : Am (sYmd σ y me de) S := fun t ht => hA t ht
theorem Am.th (hA : Am σ S) {th : Nat → Int32} : Am (sTh σ th) S := fun t ht => hA t ht
theorem Am.he (hA : Am σ S) {he : Nat → Int32} : Am (sHe σ he) S := fun t ht => hA t ht
theorem Am.add (hA : Am σ S) (h0 : 0 ≤ S) {x : Int32} : Am (sAdd σ x) S := by
  intro t ht
  have ht : t < gT σ + 1 := ht
  show (∀ l, l < va_up (gn σ) (gT σ) 0 t → 0 < (va_up (gM σ) (gT σ) (fun _ => 0) t l).toInt) ∧ smM (va_up (gM σ) (gT σ) (fun _ => 0) t) (va_up (gn σ) (gT σ) 0 t) ≤ S
  by_cases e : t = gT σ
  · rw [e, vu_s, vu_s]
    exact ⟨fun l hl => absurd hl (Nat.not_lt_zero l), h0⟩
  · rw [vu_n e, vu_n e]
    exact hA t (by omega)
theorem t_le {x y : Int32} (h : x ≤ y) : x.toInt ≤ y.toInt := Int32.le_iff_toInt_le.mp h
theorem t_nlt {x y : Int32} (h : ¬ x < y) : y.toInt ≤ x.toInt := Int.not_lt.mp fun q => h (Int32.lt_iff_toInt_lt.mpr q)
theorem Am.wr (hA : Am σ S) {t : Nat} (ht : t < gT σ) {xd xc xa xw : Int32} (h : wr2 xd xc xa xw) : Am (sWrite σ t xd xc xa xw) (S + 999) := by
  have h1 := t_nlt h.2.1
  have h2 := t_le h.2.2
  have e1 : (1 : Int32).toInt = 1 := by decide +kernel
  have e2 : (999 : Int32).toInt = 999 := by decide +kernel
  rw [e1] at h1
  rw [e2] at h2
  obtain ⟨g1, g2⟩ := hA t ht
  refine (hA.up (by omega)).tab (fun l hl => ?_) ?_
  · by_cases e : l = gn σ t
    · rw [e, upd_s]
      omega
    · rw [upd_n e]
      exact g1 l (by omega)
  · show sI (fun j => (upd (gM σ t) (gn σ t) xa j).toInt) (gn σ t) + (upd (gM σ t) (gn σ t) xa (gn σ t)).toInt ≤ S + 999
    rw [upd_s, sI_cg (gn σ t) (fun q hq => congrArg Int32.toInt (upd_n (f := gM σ t) (v := xa) (show q ≠ gn σ t by omega)))]
    have g2 : sI (fun q => (gM σ t q).toInt) (gn σ t) ≤ S := g2
    omega
theorem shk_sum {M : Nat → Int32} {l K : Nat} : ∀ k, k ≤ K → smM (shk l K M) (l + k) = smM M (l + k + 1) - (M l).toInt
  | 0, _ => by
    show sI (fun j => (shk l K M j).toInt) l = sI (fun j => (M j).toInt) l + (M l).toInt - (M l).toInt
    rw [sI_cg (f := fun j => (shk l K M j).toInt) (g := fun j => (M j).toInt) l (fun q hq => by
      unfold shk
      rw [if_neg (by omega)])]
    omega
  | k + 1, hk => by
    have ih := shk_sum (M := M) (l := l) (K := K) k (by omega)
    have e : shk l K M (l + k) = M (l + k + 1) := by
      unfold shk
      rw [if_pos ⟨by omega, by omega⟩]
    show smM (shk l K M) (l + k) + (shk l K M (l + k)).toInt = smM M (l + k + 1) + (M (l + k + 1)).toInt - (M l).toInt
    rw [e, ih]
    omega
theorem Am.tk (hA : Am σ S) {t l : Nat} (ht : t < gT σ) (hl : l < gn σ t) : Am (sTake σ t l) S := by
  obtain ⟨g1, g2⟩ := hA t ht
  refine hA.tab (fun j hj => ?_) ?_
  · unfold shk
    split
    · exact g1 _ (by omega)
    · exact g1 _ (by omega)
  · have h := shk_sum (M := gM σ t) (l := l) (K := gn σ t - 1 - l) (gn σ t - 1 - l) (Nat.le_refl _)
    rw [show l + (gn σ t - 1 - l) = gn σ t - 1 by omega, show gn σ t - 1 + 1 = gn σ t by omega] at h
    have := g1 l hl
    omega
theorem Am.ls (hA : Am σ S) {t l : Nat} (ht : t < gT σ) (hl : l < gn σ t) {x : Int32} (h1 : 0 < x.toInt) (h2 : x.toInt ≤ (gM σ t l).toInt) : Am (sLess σ t l x) S := by
  obtain ⟨g1, g2⟩ := hA t ht
  refine hA.tab (fun j hj => ?_) ?_
  · by_cases e : j = l
    · rw [e, upd_s]
      exact h1
    · rw [upd_n e]
      exact g1 j hj
  · have h := sI_1 (f := fun j => (gM σ t j).toInt) (g := fun j => (upd (gM σ t) l x j).toInt) (d := l) (gn σ t) (fun q _ hq => congrArg Int32.toInt (upd_n hq))
    rw [if_pos hl, upd_s] at h
    show sI (fun j => (upd (gM σ t) l x j).toInt) (gn σ t) ≤ S
    have g2 : sI (fun j => (gM σ t j).toInt) (gn σ t) ≤ S := g2
    omega
theorem Am.py (hA : Am σ S) {t l : Nat} (ht : t < gT σ) (hl : l < gn σ t) {a : Int32} (h1 : ¬ a < 1) (h2 : a ≤ gM σ t l) : Am (sPay σ t l a) S := by
  have h1 := t_nlt h1
  have h2 := t_le h2
  have e1 : (1 : Int32).toInt = 1 := by decide +kernel
  rw [e1] at h1
  have h3 := (hA t ht).1 l hl
  have h4 := Int32.toInt_lt (gM σ t l)
  have e : (gM σ t l - a).toInt = (gM σ t l).toInt - a.toInt := t_sub (by omega) (by omega)
  unfold sPay
  by_cases z : gM σ t l - a = 0
  · rw [if_pos z]
    exact hA.tk ht hl
  · rw [if_neg z]
    have : (gM σ t l - a).toInt ≠ 0 := fun q => z (Int32.toInt_inj.mp (q.trans t_0.symm))
    exact hA.ls ht hl (by omega) (by omega)
theorem Am.dy (hA : Am σ S) {t l : Nat} (ht : t < gT σ) (hl : l < gn σ t) : Am (sDeny σ t l) S := (hA.tk ht hl).ymd
theorem Am.mt (hA : Am σ S) (h0 : 0 ≤ S) {i : Nat} : Am (sMelt σ i) S := by
  intro t ht
  show (∀ l, l < (if t < i ∧ mlt σ t then 0 else gn σ t) → 0 < (gM σ t l).toInt) ∧ smM (gM σ t) (if t < i ∧ mlt σ t then 0 else gn σ t) ≤ S
  split
  · exact ⟨fun l hl => absurd hl (Nat.not_lt_zero l), h0⟩
  · exact hA t ht
theorem Am.yr (hA : Am σ S) (h0 : 0 ≤ S) : ∀ n, Am (yrN n σ) S
  | 0 => hA
  | n + 1 => ((Am.yr hA h0 n).mt h0).ymd
theorem Am.ps (hA : Am σ S) (h0 : 0 ≤ S) {n : Nat} : Am (sPass σ n) S := (hA.yr h0 n).ymd
theorem Am.sm (hR : RM σ u) (hA : Am σ S) (hS : S ≤ 1073741824) {t : Nat} (ht : t < gT σ) {P : PS} : Am (sSm σ P t) S := by
  obtain ⟨h1, h2, h3⟩ := plq_of hR hA hS ht (s := pl0 (gDD σ t) (gC σ t) (gM σ t) (gn σ t) P) (fun _ _ => rfl) rfl
  have h1 : rowQ (smP σ P t) := h1
  have h2 : smM (pM (smP σ P t)) (pn (smP σ P t)) ≤ S := h2
  have e : ∀ j, j < pn (smP σ P t) → mxk (pn (smP σ P t)) (pM (smP σ P t)) (gM σ t) j = pM (smP σ P t) j := fun j hj => if_pos hj
  refine hA.tab (fun j hj => ?_) ?_
  · rw [e j hj]
    exact (h1 j hj).2.2.2.2
  · show sI (fun j => (mxk (pn (smP σ P t)) (pM (smP σ P t)) (gM σ t) j).toInt) (pn (smP σ P t)) ≤ S
    rw [sI_cg (pn (smP σ P t)) (fun q hq => congrArg Int32.toInt (e q hq))]
    exact h2
theorem RM.cg {t : Nat} {ha ce : Int32} {n : Nat} {D C M W D' C' M' W' : Nat → Int32} (hR : RM (sTab σ t ha ce n D C M W) u) (e : ∀ j, j < n → D j = D' j ∧ C j = C' j ∧ M j = M' j ∧ W j = W' j) : RM (sTab σ t ha ce n D' C' M' W') u := by
  refine ⟨hR.1, hR.2.1, hR.2.2.1, fun t' ht' => ?_, hR.2.2.2.2⟩
  have q := hR.2.2.2.1 t' ht'
  unfold sTab at q ⊢
  simp only [gha, gce, gn, gDD, gC, gM, gW, gT] at q ⊢
  by_cases z : t' = t
  · rw [z] at q ⊢
    simp only [vu_s] at q ⊢
    refine ⟨q.1, q.2.1, q.2.2.1, q.2.2.2.1, q.2.2.2.2.1, fun l hl => ?_⟩
    have w := q.2.2.2.2.2 l hl
    obtain ⟨e1, e2, e3, e4⟩ := e l hl
    rw [← e1, ← e2, ← e3, ← e4]
    exact w
  · simp only [vu_n z] at q ⊢
    exact q
/-- what the model lays is what the class lays -/
theorem sm_same {h h' : Hp} {B : Nat → Nat} {k : Int32} {t : Nat} {P : PS} {g md : Nat → Int32} (hg : ∀ p, p < 8 → g p = gbal σ t p) :
    ((pl (gth σ) 8 (mPS g md 0)).1 = (pr (gth σ) 8 (gbal σ t)).1) ∧ pn (pl (gth σ) 8 (mPS g md 0)).2 = pn (smP σ P t) ∧
    (MS h h' B (sTab σ t (gha σ t) (gce σ t) (pn (pl (gth σ) 8 (mPS g md 0)).2) (pD (pl (gth σ) 8 (mPS g md 0)).2) (pC (pl (gth σ) 8 (mPS g md 0)).2) (pM (pl (gth σ) 8 (mPS g md 0)).2) (pW (pl (gth σ) 8 (mPS g md 0)).2)) k → MS h h' B (sSm σ P t) k) := by
  have es : smP σ P t = (pl (gth σ) 8 (pl0 (gDD σ t) (gC σ t) (gM σ t) (gn σ t) P)).2 := rfl
  have ep : pB (pl0 (gDD σ t) (gC σ t) (gM σ t) (gn σ t) P) = gbal σ t := rfl
  have e1 := (pl_ag (th := gth σ) 8 (mPS g md 0) (pl0 (gDD σ t) (gC σ t) (gM σ t) (gn σ t) P) ⟨hg, rfl, fun j hj => absurd hj (Nat.not_lt_zero j)⟩).1
  have e6 := (pl_ag (th := gth σ) 8 (mPS g md 0) (pl0 (gDD σ t) (gC σ t) (gM σ t) (gn σ t) P) ⟨hg, rfl, fun j hj => absurd hj (Nat.not_lt_zero j)⟩).2
  have e5 := (pl_pr (th := gth σ) 8 (pl0 (gDD σ t) (gC σ t) (gM σ t) (gn σ t) P)).1
  rw [ep] at e5
  rw [← es] at e6
  obtain ⟨e2, e3, e4⟩ := e6
  refine ⟨e1.trans e5, e3, ?_⟩
  generalize (pl (gth σ) 8 (mPS g md 0)).2 = r at e2 e3 e4 ⊢
  unfold sSm
  rw [← e3]
  have k : ∀ (f g : Nat → Int32) (j : Nat), j < pn r → mxk (pn r) f g j = f j := fun f g j hj => if_pos hj
  have hD : ∀ j, j < pn r → pD r j = mxk (pn r) (pD (smP σ P t)) (gDD σ t) j := fun j hj => (e4 j hj).1.trans (k _ _ j hj).symm
  have hC : ∀ j, j < pn r → pC r j = mxk (pn r) (pC (smP σ P t)) (gC σ t) j := fun j hj => (e4 j hj).2.1.trans (k _ _ j hj).symm
  have hM : ∀ j, j < pn r → pM r j = mxk (pn r) (pM (smP σ P t)) (gM σ t) j := fun j hj => (e4 j hj).2.2.1.trans (k _ _ j hj).symm
  have hW : ∀ j, j < pn r → pW r j = mxk (pn r) (pW (smP σ P t)) (gW σ t) j := fun j hj => (e4 j hj).2.2.2.trans (k _ _ j hj).symm
  generalize mxk (pn r) (pD (smP σ P t)) (gDD σ t) = D' at hD ⊢
  generalize mxk (pn r) (pC (smP σ P t)) (gC σ t) = C' at hC ⊢
  generalize mxk (pn r) (pM (smP σ P t)) (gM σ t) = M' at hM ⊢
  generalize mxk (pn r) (pW (smP σ P t)) (gW σ t) = W' at hW ⊢
  rintro ⟨u', md', hs', hR, ⟨m0, m1, m2, m3, m4, m5, m6, m7, m8⟩, hk⟩
  exact ⟨u', md', hs', hR.cg fun j hj => ⟨hD j hj, hC j hj, hM j hj, hW j hj⟩, ⟨m0, m1, m2, m3, m4, m5, m6, m7, m8⟩, hk⟩
end In
