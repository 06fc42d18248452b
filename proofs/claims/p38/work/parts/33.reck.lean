/-! ===== smoothing, reckoned in whole numbers ===== -/
theorem nI_e8 {p q : Nat} (hp : p < 8) (hq : q < 8) (e : nI p = nI q) : p = q := (nI_eq (by omega) (by omega)).mp e
theorem pmin_cg {f g : Nat → Int32} : ∀ k, (∀ p, p ≤ k → f p = g p) → pmin f k = pmin g k
  | 0, _ => rfl
  | k + 1, e => by
    have ih := pmin_cg k (fun p hp => e p (by omega))
    have := pmin_le g k
    rw [pmin, pmin, ih, e (k + 1) (by omega), e (pmin g k) (by omega)]
theorem pmax_cg {f g : Nat → Int32} : ∀ k, (∀ p, p ≤ k → f p = g p) → pmax f k = pmax g k
  | 0, _ => rfl
  | k + 1, e => by
    have ih := pmax_cg k (fun p hp => e p (by omega))
    have := pmax_le g k
    rw [pmax, pmax, ih, e (k + 1) (by omega), e (pmax g k) (by omega)]
theorem pamt_cg {b b' : Nat → Int32} {d c : Nat} (e : ∀ p, p < 8 → b p = b' p) (hd : d < 8) (hc : c < 8) : pamt b d c = pamt b' d c := by
  rw [pamt, pamt, e d hd, e c hc]
theorem pb2_cg {b b' : Nat → Int32} {d c : Nat} (e : ∀ p, p < 8 → b p = b' p) (hd : d < 8) (hc : c < 8) : ∀ p, p < 8 → pb2 b d c p = pb2 b' d c p := by
  intro p hp
  have k : ∀ q, q < 8 → upd b d (b d + pamt b d c) q = upd b' d (b' d + pamt b' d c) q := fun q hq => by
    by_cases z : q = d
    · rw [z, upd_s, upd_s, e d hd, pamt_cg e hd hc]
    · rw [upd_n z, upd_n z, e q hq]
  unfold pb2
  by_cases z : p = c
  · rw [z, upd_s, upd_s, k c hc, pamt_cg e hd hc]
  · rw [upd_n z, upd_n z, k p hp]
theorem t_add {x y : Int32} (h1 : -2147483648 ≤ x.toInt + y.toInt) (h2 : x.toInt + y.toInt < 2147483648) : (x + y).toInt = x.toInt + y.toInt := by
  rw [Int32.toInt_add]
  exact Int.bmod_eq_of_le (by omega) (by omega)
theorem t_sub {x y : Int32} (h1 : -2147483648 ≤ x.toInt - y.toInt) (h2 : x.toInt - y.toInt < 2147483648) : (x - y).toInt = x.toInt - y.toInt := by
  rw [Int32.toInt_sub]
  exact Int.bmod_eq_of_le (by omega) (by omega)
theorem t_neg {x : Int32} (h1 : -2147483648 < x.toInt) (h2 : x.toInt < 2147483648) : (-x).toInt = -x.toInt := by
  rw [Int32.toInt_neg]
  exact Int.bmod_eq_of_le (by omega) (by omega)
theorem t_0 : (0 : Int32).toInt = 0 := by decide +kernel
def sI (f : Nat → Int) : Nat → Int
  | 0 => 0
  | k + 1 => sI f k + f k
theorem sI_cg {f g : Nat → Int} : ∀ n, (∀ q, q < n → f q = g q) → sI f n = sI g n
  | 0, _ => rfl
  | n + 1, e => by
    have ih := sI_cg n (fun q hq => e q (by omega))
    have := e n (by omega)
    show sI f n + f n = sI g n + g n
    omega
theorem sI_sub {f g : Nat → Int} : ∀ n, sI (fun q => f q - g q) n = sI f n - sI g n
  | 0 => rfl
  | n + 1 => by
    have ih := sI_sub (f := f) (g := g) n
    show sI (fun q => f q - g q) n + (f n - g n) = sI f n + f n - (sI g n + g n)
    omega
theorem sI_nn {f : Nat → Int} : ∀ n, (∀ q, q < n → 0 ≤ f q) → 0 ≤ sI f n
  | 0, _ => Int.le_refl _
  | n + 1, e => by
    have ih := sI_nn n (fun q hq => e q (by omega))
    have := e n (by omega)
    show 0 ≤ sI f n + f n
    omega
theorem sI_le1 {f : Nat → Int} {d : Nat} : ∀ n, (∀ q, q < n → 0 ≤ f q) → d < n → f d ≤ sI f n
  | 0, _, h => absurd h (Nat.not_lt_zero d)
  | n + 1, e, h => by
    have := e n (by omega)
    show f d ≤ sI f n + f n
    by_cases z : d = n
    · have := sI_nn (f := f) n (fun q hq => e q (by omega))
      rw [z]
      omega
    · have ih := sI_le1 (f := f) (d := d) n (fun q hq => e q (by omega)) (by omega)
      omega
theorem sI_1 {f g : Nat → Int} {d : Nat} : ∀ n, (∀ q, q < n → q ≠ d → g q = f q) → sI g n = sI f n + (if d < n then g d - f d else 0)
  | 0, _ => by
    rw [if_neg (Nat.not_lt_zero d)]
    rfl
  | n + 1, e => by
    have ih := sI_1 (f := f) (g := g) (d := d) n (fun q hq => e q (by omega))
    show sI g n + g n = sI f n + f n + _
    by_cases e1 : d = n
    · subst e1
      rw [if_neg (Nat.lt_irrefl d)] at ih
      rw [if_pos (Nat.lt_succ_self d)]
      omega
    · have := e n (by omega) (fun z => e1 z.symm)
      by_cases z : d < n
      · rw [if_pos z] at ih
        rw [if_pos (by omega)]
        omega
      · rw [if_neg z] at ih
        rw [if_neg (by omega)]
        omega
/-- two numbers changed -/
theorem sI_2 (φ : Int → Int) {b b' : Nat → Int32} {d c n : Nat} (hd : d < n) (hc : c < n) (hdc : d ≠ c) (e : ∀ q, q < n → q ≠ d → q ≠ c → b' q = b q) : sI (fun q => φ (b' q).toInt) n = sI (fun q => φ (b q).toInt) n + (φ (b' d).toInt - φ (b d).toInt) + (φ (b' c).toInt - φ (b c).toInt) := by
  have h1 := sI_1 (f := fun q => φ (b q).toInt) (g := fun q => if q = c then φ (b q).toInt else φ (b' q).toInt) (d := d) n (fun q hq hqd => by
    by_cases z : q = c
    · exact if_pos z
    · exact (if_neg z).trans (congrArg (fun y => φ (Int32.toInt y)) (e q hq hqd z)))
  have h2 := sI_1 (f := fun q => if q = c then φ (b q).toInt else φ (b' q).toInt) (g := fun q => φ (b' q).toInt) (d := c) n (fun q hq hqc => (if_neg hqc).symm)
  rw [if_pos hd] at h1
  rw [if_pos hc] at h2
  have k1 : (if d = c then φ (b d).toInt else φ (b' d).toInt) = φ (b' d).toInt := if_neg hdc
  have k2 : (if c = c then φ (b c).toInt else φ (b' c).toInt) = φ (b c).toInt := if_pos rfl
  rw [k1] at h1
  rw [k2] at h2
  omega
theorem pmin_T (b : Nat → Int32) : ∀ k p, p ≤ k → (b (pmin b k)).toInt ≤ (b p).toInt
  | 0, p, h => by
    rw [show p = 0 by omega]
    exact Int.le_refl _
  | k + 1, p, h => by
    have ih := pmin_T b k
    unfold pmin
    by_cases z : b (k + 1) < b (pmin b k)
    · rw [if_pos z]
      have z := Int32.lt_iff_toInt_lt.mp z
      by_cases e : p = k + 1
      · rw [e]
        exact Int.le_refl _
      · have := ih p (by omega)
        omega
    · rw [if_neg z]
      have z : ¬ (b (k + 1)).toInt < (b (pmin b k)).toInt := fun q => z (Int32.lt_iff_toInt_lt.mpr q)
      by_cases e : p = k + 1
      · rw [e]
        omega
      · exact ih p (by omega)
theorem pmax_T (b : Nat → Int32) : ∀ k p, p ≤ k → (b p).toInt ≤ (b (pmax b k)).toInt
  | 0, p, h => by
    rw [show p = 0 by omega]
    exact Int.le_refl _
  | k + 1, p, h => by
    have ih := pmax_T b k
    unfold pmax
    by_cases z : b (pmax b k) < b (k + 1)
    · rw [if_pos z]
      have z := Int32.lt_iff_toInt_lt.mp z
      by_cases e : p = k + 1
      · rw [e]
        exact Int.le_refl _
      · have := ih p (by omega)
        omega
    · rw [if_neg z]
      have z : ¬ (b (pmax b k)).toInt < (b (k + 1)).toInt := fun q => z (Int32.lt_iff_toInt_lt.mpr q)
      by_cases e : p = k + 1
      · rw [e]
        omega
      · exact ih p (by omega)
abbrev psI (z : Int) : Int := if 0 < z then z else 0
abbrev nzI (z : Int) : Int := if z = 0 then 0 else 1
theorem ps_nn (z : Int) : 0 ≤ psI z := by
  unfold psI
  split <;> omega
theorem ps_ge (z : Int) : z ≤ psI z := by
  unfold psI
  split <;> omega
theorem ps_0 {z : Int} (h : z ≤ 0) : psI z = 0 := if_neg (by omega)
theorem ps_p {z : Int} (h : 0 ≤ z) : psI z = z := by
  unfold psI
  split <;> omega
theorem nz_nn (z : Int) : 0 ≤ nzI z := by
  unfold nzI
  split <;> omega
theorem nz_le (z : Int) : nzI z ≤ 1 := by
  unfold nzI
  split <;> omega
theorem nz_1 {z : Int} (h : z ≠ 0) : nzI z = 1 := if_neg h
theorem nz_0 {z : Int} (h : z = 0) : nzI z = 0 := if_pos h
/-- balances that are 0 together, S at the most -/
def okB (S : Int) (b : Nat → Int32) : Prop := sI (fun q => (b q).toInt) 8 = 0 ∧ sI (fun q => psI (b q).toInt) 8 ≤ S
theorem okB.S0 {S : Int} {b : Nat → Int32} (h : okB S b) : 0 ≤ S := Int.le_trans (sI_nn 8 (fun q _ => ps_nn _)) h.2
theorem okB.bd {S : Int} {b : Nat → Int32} (h : okB S b) {p : Nat} (hp : p < 8) : -S ≤ (b p).toInt ∧ (b p).toInt ≤ S := by
  have h1 := sI_le1 (f := fun q => psI (b q).toInt) 8 (fun q _ => ps_nn _) hp
  have h2 := sI_le1 (f := fun q => psI (b q).toInt - (b q).toInt) 8 (fun q _ => by
    have := ps_ge (b q).toInt
    show 0 ≤ psI (b q).toInt - (b q).toInt
    omega) hp
  rw [sI_sub (f := fun q => psI (b q).toInt) (g := fun q => (b q).toInt), h.1] at h2
  have h1 : psI (b p).toInt ≤ sI (fun q => psI (b q).toInt) 8 := h1
  have h2 : psI (b p).toInt - (b p).toInt ≤ sI (fun q => psI (b q).toInt) 8 - 0 := h2
  have h3 := ps_ge (b p).toInt
  have h4 := ps_nn (b p).toInt
  have h5 := h.2
  omega
/-- one line of smoothing -/
theorem okB.st {S : Int} {b : Nat → Int32} (h : okB S b) (hS : S ≤ 1073741824) (hn : b (pmin b 7) < 0) : pmin b 7 ≠ pmax b 7 ∧ 0 < (pamt b (pmin b 7) (pmax b 7)).toInt ∧ okB (S - (pamt b (pmin b 7) (pmax b 7)).toInt) (pb2 b (pmin b 7) (pmax b 7)) ∧ sI (fun q => nzI (pb2 b (pmin b 7) (pmax b 7) q).toInt) 8 + 1 ≤ sI (fun q => nzI (b q).toInt) 8 := by
  have d8 : pmin b 7 < 8 := by
    have := pmin_le b 7
    omega
  have c8 : pmax b 7 < 8 := by
    have := pmax_le b 7
    omega
  have hmax := pmax_T b 7
  generalize pmin b 7 = d at hn d8 ⊢
  generalize pmax b 7 = c at c8 hmax ⊢
  have hd : (b d).toInt < 0 := by
    have := Int32.lt_iff_toInt_lt.mp hn
    rw [t_0] at this
    exact this
  have hc : 0 < (b c).toInt := by
    refine Int.not_le.mp fun z => ?_
    have h2 := sI_le1 (f := fun q => 0 - (b q).toInt) 8 (fun q hq => by
      have := hmax q (by omega)
      show 0 ≤ 0 - (b q).toInt
      omega) d8
    rw [sI_sub (f := fun _ => 0) (g := fun q => (b q).toInt), h.1] at h2
    have h2 : 0 - (b d).toInt ≤ sI (fun _ => 0) 8 - 0 := h2
    have : sI (fun _ => 0) 8 = 0 := rfl
    omega
  have hdc : d ≠ c := fun z => by
    rw [z] at hd
    omega
  have bd := h.bd d8
  have bc := h.bd c8
  have hnd : (-(b d)).toInt = -(b d).toInt := t_neg (by omega) (by omega)
  have ha : ((pamt b d c).toInt = (b c).toInt ∧ (b c).toInt < -(b d).toInt) ∨ ((pamt b d c).toInt = -(b d).toInt ∧ -(b d).toInt ≤ (b c).toInt) := by
    unfold pamt
    by_cases z : b c < -(b d)
    · have z2 := Int32.lt_iff_toInt_lt.mp z
      rw [if_pos z]
      exact Or.inl ⟨rfl, by omega⟩
    · have z2 : ¬ (b c).toInt < (-(b d)).toInt := fun q => z (Int32.lt_iff_toInt_lt.mpr q)
      rw [if_neg z]
      exact Or.inr ⟨hnd, by omega⟩
  have vd : (pb2 b d c d).toInt = (b d).toInt + (pamt b d c).toInt := by
    unfold pb2
    rw [upd_n hdc, upd_s]
    exact t_add (by omega) (by omega)
  have vc : (pb2 b d c c).toInt = (b c).toInt - (pamt b d c).toInt := by
    unfold pb2
    rw [upd_s, upd_n (Ne.symm hdc)]
    exact t_sub (by omega) (by omega)
  have ve : ∀ q, q < 8 → q ≠ d → q ≠ c → pb2 b d c q = b q := fun q _ h1 h2 => by
    unfold pb2
    rw [upd_n h2, upd_n h1]
  have s1 := sI_2 (fun z => z) d8 c8 hdc ve
  have s2 := sI_2 psI d8 c8 hdc ve
  have s3 := sI_2 nzI d8 c8 hdc ve
  rw [vd, vc] at s1 s2 s3
  have h1 := h.1
  have h2 := h.2
  have apos : 0 < (pamt b d c).toInt := by omega
  refine ⟨hdc, apos, ⟨?_, ?_⟩, ?_⟩
  · have s1 : sI (fun q => (pb2 b d c q).toInt) 8 = sI (fun q => (b q).toInt) 8 + ((b d).toInt + (pamt b d c).toInt - (b d).toInt) + ((b c).toInt - (pamt b d c).toInt - (b c).toInt) := s1
    omega
  · rw [ps_0 (z := (b d).toInt + (pamt b d c).toInt) (by omega), ps_0 (z := (b d).toInt) (by omega), ps_p (z := (b c).toInt - (pamt b d c).toInt) (by omega), ps_p (z := (b c).toInt) (by omega)] at s2
    omega
  · rw [nz_1 (z := (b d).toInt) (by omega), nz_1 (z := (b c).toInt) (by omega)] at s3
    have n1 := nz_le ((b d).toInt + (pamt b d c).toInt)
    have n2 := nz_le ((b c).toInt - (pamt b d c).toInt)
    rcases ha with ⟨a1, a2⟩ | ⟨a1, a2⟩
    · rw [nz_0 (z := (b c).toInt - (pamt b d c).toInt) (by omega)] at s3
      omega
    · rw [nz_0 (z := (b d).toInt + (pamt b d c).toInt) (by omega)] at s3
      omega
theorem nz8 (b : Nat → Int32) : ∀ n : Nat, sI (fun q => nzI (b q).toInt) n ≤ n
  | 0 => Int.le_refl _
  | n + 1 => by
    have ih := nz8 b n
    have := nz_le (b n).toInt
    show sI (fun q => nzI (b q).toInt) n + nzI (b n).toInt ≤ ((n + 1 : Nat) : Int)
    omega
abbrev rowQ (s : PS) : Prop := ∀ j, j < pn s → inP (pD s j) ∧ inP (pC s j) ∧ inP (pW s j) ∧ pD s j ≠ pC s j ∧ 0 < (pM s j).toInt
abbrev smM (M : Nat → Int32) : Nat → Int := sI (fun j => (M j).toInt)
theorem pl_Q {th : Nat → Int32} : ∀ (f : Nat) (S : Int) (s : PS), okB S (pB s) → S ≤ 1073741824 → rowQ s → rowQ (pl th f s).2 ∧ smM (pM (pl th f s).2) (pn (pl th f s).2) ≤ smM (pM s) (pn s) + S
  | 0, S, s, h, hS, hq => ⟨hq, by
    have := h.S0
    show smM (pM s) (pn s) ≤ smM (pM s) (pn s) + S
    omega⟩
  | f + 1, S, s, h, hS, hq => by
    have keep : rowQ s ∧ smM (pM s) (pn s) ≤ smM (pM s) (pn s) + S := ⟨hq, by
      have := h.S0
      omega⟩
    by_cases hb : pB s (pmin (pB s) 7) < 0
    · cases hw : wf th (pmin (pB s) 7) (pmax (pB s) 7) 8 0 with
      | none =>
        rw [pl_none hb hw]
        exact keep
      | some w =>
        rw [pl_some hb hw]
        obtain ⟨g1, g2, g3, -⟩ := h.st hS hb
        have d8 : pmin (pB s) 7 < 8 := by
          have := pmin_le (pB s) 7
          omega
        have c8 : pmax (pB s) 7 < 8 := by
          have := pmax_le (pB s) 7
          omega
        have w8 : w < 8 := by
          have := wf_lt hw
          omega
        generalize pmin (pB s) 7 = d at g1 g2 g3 d8 ⊢
        generalize pmax (pB s) 7 = c at g1 g2 g3 c8 ⊢
        obtain ⟨r1, r2⟩ := pl_Q (th := th) f (S - (pamt (pB s) d c).toInt) (pstp s d c w) g3 (by omega) (by
          intro j hj
          have hj : j < pn s + 1 := hj
          show inP (upd (pD s) (pn s) (nI d) j) ∧ inP (upd (pC s) (pn s) (nI c) j) ∧ inP (upd (pW s) (pn s) (nI w) j) ∧ upd (pD s) (pn s) (nI d) j ≠ upd (pC s) (pn s) (nI c) j ∧ 0 < (upd (pM s) (pn s) (pamt (pB s) d c) j).toInt
          by_cases z : j = pn s
          · rw [z]
            simp only [upd_s]
            exact ⟨inP_nI d8, inP_nI c8, inP_nI w8, fun q => g1 (nI_e8 d8 c8 q), g2⟩
          · simp only [upd_n z]
            exact hq j (by omega))
        refine ⟨r1, Int.le_trans r2 ?_⟩
        have e1 : smM (pM (pstp s d c w)) (pn (pstp s d c w)) = smM (pM s) (pn s) + (pamt (pB s) d c).toInt := by
          show sI (fun j => (upd (pM s) (pn s) (pamt (pB s) d c) j).toInt) (pn s) + (upd (pM s) (pn s) (pamt (pB s) d c) (pn s)).toInt = _
          rw [upd_s, sI_cg (pn s) (fun q hq => congrArg Int32.toInt (upd_n (f := pM s) (v := pamt (pB s) d c) (show q ≠ pn s by omega)))]
        omega
    · rw [pl_neg hb]
      exact keep
/-- what persons have on a tablet -/
theorem bal_ok {D C M : Nat → Int32} : ∀ n, (∀ j, j < n → inP (D j) ∧ inP (C j) ∧ D j ≠ C j ∧ 0 < (M j).toInt) → smM M n ≤ 1073741824 → okB (smM M n) (fun p => bal D C M (nI p) n)
  | 0, _, _ => by
    refine ⟨?_, ?_⟩
    · show sI (fun _ => (0 : Int32).toInt) 8 = 0
      decide +kernel
    · show sI (fun _ => psI (0 : Int32).toInt) 8 ≤ 0
      decide +kernel
  | n + 1, h, hs => by
    obtain ⟨h1, h2, h3, h4⟩ := h n (by omega)
    have hs : smM M n + (M n).toInt ≤ 1073741824 := hs
    have ih := bal_ok (D := D) (C := C) (M := M) n (fun j hj => h j (by omega)) (by omega)
    obtain ⟨d, hd, ed⟩ := inP_of h1
    obtain ⟨c, hc, ec⟩ := inP_of h2
    have hdc : d ≠ c := fun z => h3 (by rw [ed, ec, z])
    have bd := ih.bd hd
    have bc := ih.bd hc
    have s0 := ih.S0
    have vc : bal D C M (nI c) (n + 1) = bal D C M (nI c) n + M n := by
      rw [bal, if_pos ec]
    have vd : bal D C M (nI d) (n + 1) = bal D C M (nI d) n - M n := by
      rw [bal, if_neg (fun q => hdc (nI_e8 hd hc (q.symm.trans ec))), if_pos ed]
    have ve : ∀ q, q < 8 → q ≠ d → q ≠ c → bal D C M (nI q) (n + 1) = bal D C M (nI q) n := fun q hq q1 q2 => by
      rw [bal, if_neg (fun z => q2 (nI_e8 hq hc (z.symm.trans ec))), if_neg (fun z => q1 (nI_e8 hq hd (z.symm.trans ed)))]
    have vc2 : (bal D C M (nI c) (n + 1)).toInt = (bal D C M (nI c) n).toInt + (M n).toInt := by
      rw [vc]
      exact t_add (by omega) (by omega)
    have vd2 : (bal D C M (nI d) (n + 1)).toInt = (bal D C M (nI d) n).toInt - (M n).toInt := by
      rw [vd]
      exact t_sub (by omega) (by omega)
    have s1 := sI_2 (fun z => z) (b := fun p => bal D C M (nI p) n) (b' := fun p => bal D C M (nI p) (n + 1)) hd hc hdc ve
    have s2 := sI_2 psI (b := fun p => bal D C M (nI p) n) (b' := fun p => bal D C M (nI p) (n + 1)) hd hc hdc ve
    simp only [vc2, vd2] at s1 s2
    have i1 : sI (fun q => (bal D C M (nI q) n).toInt) 8 = 0 := ih.1
    have i2 : sI (fun q => psI (bal D C M (nI q) n).toInt) 8 ≤ smM M n := ih.2
    refine ⟨?_, ?_⟩
    · show sI (fun q => (bal D C M (nI q) (n + 1)).toInt) 8 = 0
      omega
    · show sI (fun q => psI (bal D C M (nI q) (n + 1)).toInt) 8 ≤ smM M n + (M n).toInt
      have p1 : psI ((bal D C M (nI d) n).toInt - (M n).toInt) ≤ psI (bal D C M (nI d) n).toInt := by
        unfold psI
        split <;> split <;> omega
      have p2 : psI ((bal D C M (nI c) n).toInt + (M n).toInt) ≤ psI (bal D C M (nI c) n).toInt + (M n).toInt := by
        unfold psI
        split <;> split <;> omega
      omega
theorem okB.cg {S : Int} {b b' : Nat → Int32} (h : okB S b) (e : ∀ p, p < 8 → b' p = b p) : okB S b' :=
  ⟨(sI_cg 8 (fun q hq => congrArg Int32.toInt (e q hq))).trans h.1, by
    rw [sI_cg 8 (fun q hq => congrArg (fun y => psI (Int32.toInt y)) (e q hq))]
    exact h.2⟩
/-- two plans that tell the same -/
def agP (s s' : PS) : Prop := (∀ p, p < 8 → pB s p = pB s' p) ∧ pn s = pn s' ∧ ∀ j, j < pn s → pD s j = pD s' j ∧ pC s j = pC s' j ∧ pM s j = pM s' j ∧ pW s j = pW s' j
theorem pl_ag {th : Nat → Int32} : ∀ (f : Nat) (s s' : PS), agP s s' → (pl th f s).1 = (pl th f s').1 ∧ agP (pl th f s).2 (pl th f s').2
  | 0, _, _, h => ⟨rfl, h⟩
  | f + 1, s, s', h => by
    obtain ⟨h1, h2, h3⟩ := id h
    have e1 := pmin_cg 7 (f := pB s) (g := pB s') (fun p hp => h1 p (by omega))
    have e2 := pmax_cg 7 (f := pB s) (g := pB s') (fun p hp => h1 p (by omega))
    have d8 : pmin (pB s') 7 < 8 := by
      have := pmin_le (pB s') 7
      omega
    have c8 : pmax (pB s') 7 < 8 := by
      have := pmax_le (pB s') 7
      omega
    by_cases hb : pB s (pmin (pB s) 7) < 0
    · have hb' : pB s' (pmin (pB s') 7) < 0 := by
        rw [e1, h1 _ d8] at hb
        exact hb
      cases hw : wf th (pmin (pB s) 7) (pmax (pB s) 7) 8 0 with
      | none =>
        have hw' : wf th (pmin (pB s') 7) (pmax (pB s') 7) 8 0 = none := by rw [← e1, ← e2]; exact hw
        rw [pl_none hb hw, pl_none hb' hw']
        exact ⟨rfl, h⟩
      | some w =>
        have hw' : wf th (pmin (pB s') 7) (pmax (pB s') 7) 8 0 = some w := by rw [← e1, ← e2]; exact hw
        rw [pl_some hb hw, pl_some hb' hw', e1, e2]
        generalize pmin (pB s') 7 = d at d8 ⊢
        generalize pmax (pB s') 7 = c at c8 ⊢
        refine pl_ag f _ _ ⟨pb2_cg h1 d8 c8, ?_, fun j hj => ?_⟩
        · show pn s + 1 = pn s' + 1
          rw [h2]
        · have hj : j < pn s + 1 := hj
          show upd (pD s) (pn s) (nI d) j = upd (pD s') (pn s') (nI d) j ∧ upd (pC s) (pn s) (nI c) j = upd (pC s') (pn s') (nI c) j ∧ upd (pM s) (pn s) (pamt (pB s) d c) j = upd (pM s') (pn s') (pamt (pB s') d c) j ∧ upd (pW s) (pn s) (nI w) j = upd (pW s') (pn s') (nI w) j
          rw [← h2, pamt_cg h1 d8 c8]
          by_cases z : j = pn s
          · rw [z]
            simp only [upd_s]
            exact ⟨trivial, trivial, trivial, trivial⟩
          · simp only [upd_n z]
            exact h3 j (by omega)
    · have hb' : ¬ pB s' (pmin (pB s') 7) < 0 := by
        rw [e1, h1 _ d8] at hb
        exact hb
      rw [pl_neg hb, pl_neg hb']
      exact ⟨rfl, h⟩

theorem pmin_F (b : Nat → Int32) : ∀ k p, p < pmin b k → (b (pmin b k)).toInt < (b p).toInt
  | 0, p, h => absurd h (Nat.not_lt_zero p)
  | k + 1, p, h => by
    unfold pmin at h ⊢
    by_cases c : b (k + 1) < b (pmin b k)
    · rw [if_pos c] at h ⊢
      have h1 := pmin_T b k p (by omega)
      have h2 := Int32.lt_iff_toInt_lt.mp c
      omega
    · rw [if_neg c] at h ⊢
      exact pmin_F b k p h
theorem pmax_F (b : Nat → Int32) : ∀ k p, p < pmax b k → (b p).toInt < (b (pmax b k)).toInt
  | 0, p, h => absurd h (Nat.not_lt_zero p)
  | k + 1, p, h => by
    unfold pmax at h ⊢
    by_cases c : b (pmax b k) < b (k + 1)
    · rw [if_pos c] at h ⊢
      have h1 := pmax_T b k p (by omega)
      have h2 := Int32.lt_iff_toInt_lt.mp c
      omega
    · rw [if_neg c] at h ⊢
      exact pmax_F b k p h
/-- m is the smallest number of those from i on that have the least -/
def LQ (b : Nat → Int32) (i m : Nat) : Prop := i ≤ m ∧ m < 8 ∧ (∀ p, i ≤ p → p < 8 → (b m).toInt ≤ (b p).toInt) ∧ ∀ p, i ≤ p → p < m → (b m).toInt < (b p).toInt
def HQ (b : Nat → Int32) (i m : Nat) : Prop := i ≤ m ∧ m < 8 ∧ (∀ p, i ≤ p → p < 8 → (b p).toInt ≤ (b m).toInt) ∧ ∀ p, i ≤ p → p < m → (b p).toInt < (b m).toInt
theorem LQ.z {b : Nat → Int32} : LQ b 7 7 := ⟨Nat.le_refl _, by decide, fun p h1 h2 => by
  have : p = 7 := by omega
  rw [this]
  exact Int.le_refl _, fun p h1 h2 => by omega⟩
theorem HQ.z {b : Nat → Int32} : HQ b 7 7 := ⟨Nat.le_refl _, by decide, fun p h1 h2 => by
  have : p = 7 := by omega
  rw [this]
  exact Int.le_refl _, fun p h1 h2 => by omega⟩
theorem LQ.y {b : Nat → Int32} {i m : Nat} (h : LQ b (i + 1) m) (c : ¬ b m < b i) : LQ b i i := by
  obtain ⟨h1, h2, h3, h4⟩ := h
  have c' : (b i).toInt ≤ (b m).toInt := Int.not_lt.mp fun q => c (Int32.lt_iff_toInt_lt.mpr q)
  refine ⟨Nat.le_refl _, by omega, fun p p1 p2 => ?_, fun p p1 p2 => by omega⟩
  by_cases e : p = i
  · rw [e]
    exact Int.le_refl _
  · exact Int.le_trans c' (h3 p (by omega) p2)
theorem LQ.n {b : Nat → Int32} {i m : Nat} (h : LQ b (i + 1) m) (c : b m < b i) : LQ b i m := by
  obtain ⟨h1, h2, h3, h4⟩ := h
  have c' := Int32.lt_iff_toInt_lt.mp c
  refine ⟨by omega, h2, fun p p1 p2 => ?_, fun p p1 p2 => ?_⟩
  · by_cases e : p = i
    · rw [e]
      omega
    · exact h3 p (by omega) p2
  · by_cases e : p = i
    · rw [e]
      omega
    · exact h4 p (by omega) p2
theorem HQ.y {b : Nat → Int32} {i m : Nat} (h : HQ b (i + 1) m) (c : ¬ b i < b m) : HQ b i i := by
  obtain ⟨h1, h2, h3, h4⟩ := h
  have c' : (b m).toInt ≤ (b i).toInt := Int.not_lt.mp fun q => c (Int32.lt_iff_toInt_lt.mpr q)
  refine ⟨Nat.le_refl _, by omega, fun p p1 p2 => ?_, fun p p1 p2 => by omega⟩
  by_cases e : p = i
  · rw [e]
    exact Int.le_refl _
  · exact Int.le_trans (h3 p (by omega) p2) c'
theorem HQ.n {b : Nat → Int32} {i m : Nat} (h : HQ b (i + 1) m) (c : b i < b m) : HQ b i m := by
  obtain ⟨h1, h2, h3, h4⟩ := h
  have c' := Int32.lt_iff_toInt_lt.mp c
  refine ⟨by omega, h2, fun p p1 p2 => ?_, fun p p1 p2 => ?_⟩
  · by_cases e : p = i
    · rw [e]
      omega
    · exact h3 p (by omega) p2
  · by_cases e : p = i
    · rw [e]
      omega
    · exact h4 p (by omega) p2
theorem LQ.eq {b : Nat → Int32} {m : Nat} (h : LQ b 0 m) : m = pmin b 7 := by
  obtain ⟨h1, h2, h3, h4⟩ := h
  have p7 := pmin_le b 7
  rcases Nat.lt_trichotomy m (pmin b 7) with q | q | q
  · have a := pmin_F b 7 m q
    have c := h3 (pmin b 7) (Nat.zero_le _) (by omega)
    omega
  · exact q
  · have a := pmin_T b 7 m (by omega)
    have c := h4 (pmin b 7) (Nat.zero_le _) q
    omega
theorem HQ.eq {b : Nat → Int32} {m : Nat} (h : HQ b 0 m) : m = pmax b 7 := by
  obtain ⟨h1, h2, h3, h4⟩ := h
  have p7 := pmax_le b 7
  rcases Nat.lt_trichotomy m (pmax b 7) with q | q | q
  · have a := pmax_F b 7 m q
    have c := h3 (pmax b 7) (Nat.zero_le _) (by omega)
    omega
  · exact q
  · have a := pmax_T b 7 m (by omega)
    have c := h4 (pmax b 7) (Nat.zero_le _) q
    omega
/-- balanced, and nobody owes: all have 0 -/
theorem okB.zero {S : Int} {b : Nat → Int32} (h : okB S b) (c : ¬ b (pmin b 7) < 0) : ∀ p, p < 8 → b p = 0 := by
  intro p hp
  have c' : 0 ≤ (b (pmin b 7)).toInt := by
    have := Int.not_lt.mp fun q => c (Int32.lt_iff_toInt_lt.mpr q)
    rw [t_0] at this
    exact this
  have nn : ∀ q, q < 8 → 0 ≤ (b q).toInt := fun q hq => Int.le_trans c' (pmin_T b 7 q (by omega))
  have h1 := sI_le1 (f := fun q => (b q).toInt) 8 nn hp
  have h2 := h.1
  have h3 := nn p hp
  refine Int32.toInt_inj.mp ?_
  rw [t_0]
  have h1 : (b p).toInt ≤ sI (fun q => (b q).toInt) 8 := h1
  omega
theorem okB.zeros {S : Int} {b : Nat → Int32} (h : okB S b) (hz : sI (fun q => nzI (b q).toInt) 8 ≤ 0) : ¬ b (pmin b 7) < 0 := fun q => by
  have p7 := pmin_le b 7
  have h1 := sI_le1 (f := fun q => nzI (b q).toInt) 8 (fun q _ => nz_nn _) (d := pmin b 7) (by omega)
  have h1 : nzI (b (pmin b 7)).toInt ≤ sI (fun q => nzI (b q).toInt) 8 := h1
  have q' := Int32.lt_iff_toInt_lt.mp q
  rw [t_0] at q'
  rw [nz_1 (by omega)] at h1
  omega
