/-! ===== TallyWaxModel: smoothed ===== -/
/-- the reckoning ends within f lines -/
def pe (th : Nat → Int32) : Nat → (Nat → Int32) → Prop
  | 0, b => ¬ b (pmin b 7) < 0
  | f + 1, b => b (pmin b 7) < 0 → ∀ w, wf th (pmin b 7) (pmax b 7) 8 0 = some w → pe th f (pb2 b (pmin b 7) (pmax b 7))
def mPS (hs md : Nat → Int32) (n : Nat) : PS := (hs, fun j => md (4 * j), fun j => md (4 * j + 1), fun j => md (4 * j + 2), fun j => md (4 * j + 3), n)
def lfv (r : Bool × PS) : Int32 := if r.1 = true then nI (pn r.2) else -1
theorem mPS_s {hs md : Nat → Int32} {n d c w : Nat} {its : Int32} (e : its = pamt hs d c) : mPS (upd (upd hs d (hs d + its)) c (upd hs d (hs d + its) c - its)) (upd (upd (upd (upd md (4 * n + 0) (nI d)) (4 * n + 1) (nI c)) (4 * n + 2) its) (4 * n + 3) (nI w)) (n + 1) = pstp (mPS hs md n) d c w := by
  subst e
  have k : ∀ i v, i < 4 → (fun j => upd (upd (upd (upd md (4 * n + 0) (nI d)) (4 * n + 1) (nI c)) (4 * n + 2) (pamt hs d c)) (4 * n + 3) (nI w) (4 * j + i)) n = v → (fun j => upd (upd (upd (upd md (4 * n + 0) (nI d)) (4 * n + 1) (nI c)) (4 * n + 2) (pamt hs d c)) (4 * n + 3) (nI w) (4 * j + i)) = upd (fun j => md (4 * j + i)) n v := fun i v hi hv => by
    funext j
    by_cases q : j = n
    · rw [q, upd_s]
      exact hv
    · show upd _ _ _ _ = _
      rw [upd_n q, upd_n (by omega), upd_n (by omega), upd_n (by omega), upd_n (by omega)]
  have k0 := k 0 (nI d) (by decide) (by
    show upd _ _ _ _ = _
    rw [upd_n (by omega), upd_n (by omega), upd_n (by omega), upd_s])
  have k1 := k 1 (nI c) (by decide) (by
    show upd _ _ _ _ = _
    rw [upd_n (by omega), upd_n (by omega), upd_s])
  have k2 := k 2 (pamt hs d c) (by decide) (by
    show upd _ _ _ _ = _
    rw [upd_n (by omega), upd_s])
  have k3 := k 3 (nI w) (by decide) upd_s
  unfold mPS pstp pb2
  exact congr (congrArg Prod.mk rfl) (congr (congrArg Prod.mk k0) (congr (congrArg Prod.mk k1) (congr (congrArg Prod.mk k2) (congr (congrArg Prod.mk k3) rfl))))
section Mt
variable {G : Gt} {h : Hp} {B : Nat → Nat} {σ : Sg} {x : Int32} {u : Mu} {md hs : Nat → Int32}
def smPost (B : Nat → Nat) (σ : Sg) (x : Int32) (u : Mu) (h : Hp) (r : Bool × PS) : Option Value → Hp → Prop := fun v h' => v = some (.int (lfv r)) ∧ ∃ md' hs', r.2 = mPS hs' md' (pn r.2) ∧ MO h' B σ x u md' hs' ∧ kpB h h' B
set_option maxHeartbeats 8000000 in
theorem c_X4_smoothed (hG : GOk G) (hM : MO h B σ x u md hs) (hR : RM σ u) {t : Nat} (ht : t < gT σ) (hE : ∀ g, (∀ p, p < 8 → g p = gbal σ t p) → pe (gth σ) 8 g) : Ct G yX4_smoothed (.code yX4_smoothed cX4_smoothed 7 (some .int)) 3 66 0 0 [.ref (B 0), .int (nI t)] h (fun v h' => ∃ g, (∀ p, p < 8 → g p = gbal σ t p) ∧ smPost B σ x u h (pl (gth σ) 8 (mPS g md 0)) v h') pxN := by
  refine Ct.of (by decide +kernel) (Nat.le_of_ble_eq_true rfl) fun F hF hT hN hRm => ?_
  have h8 := hR.1
  have n06 : B 0 ≠ B 6 := hM.1.ne (by omega) (by omega) (by omega)
  have n07 : B 0 ≠ B 7 := hM.1.ne (by omega) (by omega) (by omega)
  have n67 : B 6 ≠ B 7 := hM.1.ne (by omega) (by omega) (by omega)
  have loop : ∀ (g : Nat → Int32), (∀ p, p < 8 → g p = gbal σ t p) → ∀ f n, n + f ≤ 8 → ∀ (h1 : Hp) (md1 hs1 : Nat → Int32) (z4 z5 z6 : Option Value), pe (gth σ) f hs1 → pl (gth σ) f (mPS hs1 md1 n) = pl (gth σ) 8 (mPS g md 0) → MO h1 B σ x u md1 hs1 → kpB h h1 B → V G F (fin G F (fun v h' => ∃ g, (∀ p, p < 8 → g p = gbal σ t p) ∧ smPost B σ x u h (pl (gth σ) 8 (mPS g md 0)) v h') pxN) 0 0 17 [some (.ref (B 0)), some (.int (nI t)), some (.int (nI n)), some (.int (nI (pmin hs1 7))), z4, z5, z6] [] h1 := by
    intro g hg f
    induction f with
    | zero =>
      intro n hn h1 md1 hs1 z4 z5 z6 hp1 hp2 hM1 hk1
      refine V.loc (L' := [some (.ref (B 0)), some (.int (nI t)), some (.int (nI n)), some (.int (nI (pmin hs1 7))), none, none, none]) (fun j v hv => by
        match j, hv with
        | 0, hv => exact hv
        | 1, hv => exact hv
        | 2, hv => exact hv
        | 3, hv => exact hv
        | 4, hv => cases hv
        | 5, hv => cases hv
        | 6, hv => cases hv
        | q + 7, hv => cases hv) ?_
      have hd := pmin_le hs1 7
      refine V.run hF [(.aload_n 0, 1, .null)] (pc' := 18) (L' := [some (.ref (B 0)), some (.int (nI t)), some (.int (nI n)), some (.int (nI (pmin hs1 7))), none, none, none]) (st' := [.ref (B 0)]) (by decide +kernel) rfl ?_
      refine V.getf hG hF k_RX4_33 (by decide +kernel) hM1.2.1 rfl ?_
      refine V.run hF [(.iload_n 3, 1, .null)] (pc' := 22) (L' := [some (.ref (B 0)), some (.int (nI t)), some (.int (nI n)), some (.int (nI (pmin hs1 7))), none, none, none]) (st' := [.int (nI (pmin hs1 7)), .ref (B 7)]) (by decide +kernel) rfl ?_
      refine V.ialdN (j := pmin hs1 7) hG hF (by decide +kernel) hM1.2.2.2.2.2.2.2.2 (by omega) (by decide) ?_
      refine V.if_ge hF (off := 128) (tgt := 151) (by decide +kernel) (by decide) (fun c1 => ?_) (fun c1 => ?_)
      · skip
        refine V.run hF [(.iload_n 2, 1, .null)] (pc' := 152) (L' := [some (.ref (B 0)), some (.int (nI t)), some (.int (nI n)), some (.int (nI (pmin hs1 7))), none, none, none]) (st' := [.int (nI n)]) (by decide +kernel) rfl ?_
        exact V.reti hF (by decide +kernel) ⟨g, hg, by rw [← hp2]; rfl, md1, hs1, by rw [← hp2]; rfl, hM1, hk1⟩
      · skip
        exact absurd (Int32.not_le.mp c1) hp1
    | succ f ih =>
      intro n hn h1 md1 hs1 z4 z5 z6 hp1 hp2 hM1 hk1
      refine V.loc (L' := [some (.ref (B 0)), some (.int (nI t)), some (.int (nI n)), some (.int (nI (pmin hs1 7))), none, none, none]) (fun j v hv => by
        match j, hv with
        | 0, hv => exact hv
        | 1, hv => exact hv
        | 2, hv => exact hv
        | 3, hv => exact hv
        | 4, hv => cases hv
        | 5, hv => cases hv
        | 6, hv => cases hv
        | q + 7, hv => cases hv) ?_
      have hd := pmin_le hs1 7
      have hc := pmax_le hs1 7
      obtain ⟨d, ed⟩ : ∃ d, d = pmin hs1 7 := ⟨_, rfl⟩
      obtain ⟨c, ec⟩ : ∃ c, c = pmax hs1 7 := ⟨_, rfl⟩
      rw [← ed] at hd ⊢
      rw [← ec] at hc
      refine V.run hF [(.aload_n 0, 1, .null)] (pc' := 18) (L' := [some (.ref (B 0)), some (.int (nI t)), some (.int (nI n)), some (.int (nI d)), none, none, none]) (st' := [.ref (B 0)]) (by decide +kernel) rfl ?_
      refine V.getf hG hF k_RX4_33 (by decide +kernel) hM1.2.1 rfl ?_
      refine V.run hF [(.iload_n 3, 1, .null)] (pc' := 22) (L' := [some (.ref (B 0)), some (.int (nI t)), some (.int (nI n)), some (.int (nI d)), none, none, none]) (st' := [.int (nI d), .ref (B 7)]) (by decide +kernel) rfl ?_
      refine V.ialdN (j := d) hG hF (by decide +kernel) hM1.2.2.2.2.2.2.2.2 (by omega) (by decide) ?_
      refine V.if_ge hF (off := 128) (tgt := 151) (by decide +kernel) (by decide) (fun c1 => ?_) (fun c1 => ?_)
      · skip
        refine V.run hF [(.iload_n 2, 1, .null)] (pc' := 152) (L' := [some (.ref (B 0)), some (.int (nI t)), some (.int (nI n)), some (.int (nI d)), none, none, none]) (st' := [.int (nI n)]) (by decide +kernel) rfl ?_
        have e0 : pl (gth σ) (f + 1) (mPS hs1 md1 n) = (true, mPS hs1 md1 n) := pl_neg (by show ¬ hs1 (pmin hs1 7) < 0; rw [← ed]; exact Int32.not_lt.mpr c1)
        rw [e0] at hp2
        exact V.reti hF (by decide +kernel) ⟨g, hg, by rw [← hp2]; rfl, md1, hs1, by rw [← hp2]; rfl, hM1, hk1⟩
      · skip
        have neg : hs1 (pmin hs1 7) < 0 := by rw [← ed]; exact Int32.not_le.mp c1
        refine V.run hF [(.aload_n 0, 1, .null), (.iconst 1, 1, .int 1)] (pc' := 28) (L' := [some (.ref (B 0)), some (.int (nI t)), some (.int (nI n)), some (.int (nI d)), none, none, none]) (st' := [.int 1, .ref (B 0)]) (by decide +kernel) rfl ?_
        refine V.callV (As := [.int 1]) (st := []) hG hF k_RX4_74 (by decide +kernel) (c_X4_exMax hG hM1) hM1.2.1 rfl rfl ⟨by rw [hRm]; decide, by rw [hRm]; decide⟩ (Nat.le_of_ble_eq_true rfl) rfl (fun v h_1 gp1 => ?_) (fun E h9 hx => hx.elim)
        obtain ⟨rfl, he_gp1⟩ := gp1
        rw [he_gp1]
        show V G F _ _ _ 31 [some (.ref (B 0)), some (.int (nI t)), some (.int (nI n)), some (.int (nI d)), none, none, none] [.int (nI (pmax hs1 7))] h1
        rw [← ec]
        refine V.run hF [(.istore 4, 2, .null), (.aload_n 0, 1, .null), (.iload_n 3, 1, .null), (.iload 4, 2, .null)] (pc' := 37) (L' := [some (.ref (B 0)), some (.int (nI t)), some (.int (nI n)), some (.int (nI d)), some (.int (nI c)), none, none]) (st' := [.int (nI c), .int (nI d), .ref (B 0)]) (by decide +kernel) rfl ?_
        refine V.callV (As := [.int (nI d), .int (nI c)]) (st := []) hG hF k_RX4_78 (by decide +kernel) (c_X4_witness hG hM1 hR (d := d) (c := c) (by omega) (by omega)) hM1.2.1 rfl rfl ⟨by rw [hRm]; decide, by rw [hRm]; decide⟩ (Nat.le_of_ble_eq_true rfl) rfl (fun v h_2 gp2 => ?_) (fun E h9 hx => hx.elim)
        obtain ⟨rfl, he_gp2⟩ := gp2
        rw [he_gp2]
        show V G F _ _ _ 40 [some (.ref (B 0)), some (.int (nI t)), some (.int (nI n)), some (.int (nI d)), some (.int (nI c)), none, none] [.int (on (wf (gth σ) d c 8 0))] h1
        cases hw : wf (gth σ) d c 8 0 with
        | none =>
          have e0 : pl (gth σ) (f + 1) (mPS hs1 md1 n) = (false, mPS hs1 md1 n) := pl_none neg (by show wf (gth σ) (pmin hs1 7) (pmax hs1 7) 8 0 = none; rw [← ed, ← ec]; exact hw)
          rw [e0] at hp2
          show V G F _ _ _ 40 [some (.ref (B 0)), some (.int (nI t)), some (.int (nI n)), some (.int (nI d)), some (.int (nI c)), none, none] [.int (-1)] h1
          refine V.run hF [(.istore 5, 2, .null), (.iload 5, 2, .null), (.iconst (-1), 1, .int (-1))] (pc' := 45) (L' := [some (.ref (B 0)), some (.int (nI t)), some (.int (nI n)), some (.int (nI d)), some (.int (nI c)), some (.int (-1)), none]) (st' := [.int (-1), .int (-1)]) (by decide +kernel) rfl ?_
          refine V.icmp_ne hF (off := 5) (tgt := 50) (by decide +kernel) (by decide) (fun c2 => ?_) (fun c2 => ?_)
          · exact absurd rfl c2
          · skip
            refine V.run hF [(.iconst (-1), 1, .int (-1))] (pc' := 49) (L' := [some (.ref (B 0)), some (.int (nI t)), some (.int (nI n)), some (.int (nI d)), some (.int (nI c)), some (.int (-1)), none]) (st' := [.int (-1)]) (by decide +kernel) rfl ?_
            exact V.reti hF (by decide +kernel) ⟨g, hg, by rw [← hp2]; rfl, md1, hs1, by rw [← hp2]; rfl, hM1, hk1⟩
        | some w =>
          have hw8 := wf_lt hw
          have e0 : pl (gth σ) (f + 1) (mPS hs1 md1 n) = pl (gth σ) f (pstp (mPS hs1 md1 n) d c w) := by
            have := pl_some (th := gth σ) (f := f) (P := mPS hs1 md1 n) neg (w := w) (by show wf (gth σ) (pmin hs1 7) (pmax hs1 7) 8 0 = some w; rw [← ed, ← ec]; exact hw)
            rw [this]
            show pl (gth σ) f (pstp _ (pmin hs1 7) (pmax hs1 7) w) = _
            rw [← ed, ← ec]
          have hp3 : pe (gth σ) f (pb2 hs1 d c) := by
            have := hp1 neg w (by rw [← ed, ← ec]; exact hw)
            rw [← ed, ← ec] at this
            exact this
          rw [e0] at hp2
          show V G F _ _ _ 40 [some (.ref (B 0)), some (.int (nI t)), some (.int (nI n)), some (.int (nI d)), some (.int (nI c)), none, none] [.int (nI w)] h1
          refine V.run hF [(.istore 5, 2, .null), (.iload 5, 2, .null), (.iconst (-1), 1, .int (-1))] (pc' := 45) (L' := [some (.ref (B 0)), some (.int (nI t)), some (.int (nI n)), some (.int (nI d)), some (.int (nI c)), some (.int (nI w)), none]) (st' := [.int (-1), .int (nI w)]) (by decide +kernel) rfl ?_
          refine V.icmp_ne hF (off := 5) (tgt := 50) (by decide +kernel) (by decide) (fun c2 => ?_) (fun c2 => ?_)
          · skip
            refine V.run hF [(.aload_n 0, 1, .null)] (pc' := 51) (L' := [some (.ref (B 0)), some (.int (nI t)), some (.int (nI n)), some (.int (nI d)), some (.int (nI c)), some (.int (nI w)), none]) (st' := [.ref (B 0)]) (by decide +kernel) rfl ?_
            refine V.getf hG hF k_RX4_33 (by decide +kernel) hM1.2.1 rfl ?_
            refine V.run hF [(.iload_n 3, 1, .null)] (pc' := 55) (L' := [some (.ref (B 0)), some (.int (nI t)), some (.int (nI n)), some (.int (nI d)), some (.int (nI c)), some (.int (nI w)), none]) (st' := [.int (nI d), .ref (B 7)]) (by decide +kernel) rfl ?_
            refine V.ialdN (j := d) hG hF (by decide +kernel) hM1.2.2.2.2.2.2.2.2 (by omega) (by decide) ?_
            refine V.run hF [(.ineg, 1, .null), (.aload_n 0, 1, .null)] (pc' := 58) (L' := [some (.ref (B 0)), some (.int (nI t)), some (.int (nI n)), some (.int (nI d)), some (.int (nI c)), some (.int (nI w)), none]) (st' := [.ref (B 0), .int (-(hs1 d))]) (by decide +kernel) rfl ?_
            refine V.getf hG hF k_RX4_33 (by decide +kernel) hM1.2.1 rfl ?_
            refine V.run hF [(.iload 4, 2, .null)] (pc' := 63) (L' := [some (.ref (B 0)), some (.int (nI t)), some (.int (nI n)), some (.int (nI d)), some (.int (nI c)), some (.int (nI w)), none]) (st' := [.int (nI c), .ref (B 7), .int (-(hs1 d))]) (by decide +kernel) rfl ?_
            refine V.ialdN (j := c) hG hF (by decide +kernel) hM1.2.2.2.2.2.2.2.2 (by omega) (by decide) ?_
            refine V.mmin hG hF tw_723 tw_mm1 tw_mm2 tw_mm3 (by decide +kernel) ⟨by rw [hRm]; decide, by rw [hRm]; decide⟩ ?_
            obtain ⟨its, hits⟩ : ∃ y : Int32, y = (if hs1 c < (-(hs1 d)) then hs1 c else (-(hs1 d))) := ⟨_, rfl⟩
            rw [← hits]
            have eits : its = pamt hs1 d c := hits
            refine V.run hF [(.istore 6, 2, .null), (.aload_n 0, 1, .null)] (pc' := 70) (L' := [some (.ref (B 0)), some (.int (nI t)), some (.int (nI n)), some (.int (nI d)), some (.int (nI c)), some (.int (nI w)), some (.int its)]) (st' := [.ref (B 0)]) (by decide +kernel) rfl ?_
            refine V.getf hG hF k_RX4_30 (by decide +kernel) hM1.2.1 rfl ?_
            refine V.run hF [(.iconst 4, 1, .int (nI 4)), (.iload_n 2, 1, .null), (.imul, 1, .null), (.iconst 0, 1, .int (nI 0)), (.iadd, 1, .null)] (pc' := 78) (L' := [some (.ref (B 0)), some (.int (nI t)), some (.int (nI n)), some (.int (nI d)), some (.int (nI c)), some (.int (nI w)), some (.int its)]) (st' := [.int ((nI 4 * nI n) + nI 0), .ref (B 6)]) (by decide +kernel) rfl ?_
            rw [pk_mul, nI_add]
            refine V.run hF [(.iload_n 3, 1, .null)] (pc' := 79) (L' := [some (.ref (B 0)), some (.int (nI t)), some (.int (nI n)), some (.int (nI d)), some (.int (nI c)), some (.int (nI w)), some (.int its)]) (st' := [.int (nI d), .int (nI (4 * n + 0)), .ref (B 6)]) (by decide +kernel) rfl ?_
            refine V.iastN (j := 4 * n + 0) hG hF (by decide +kernel) hM1.2.2.2.2.2.2.2.1 (by omega) (by decide) ?_
            obtain ⟨h_3, gh3⟩ : ∃ z : Hp, z = hset h1 (B 6) (.inl (0, 48, .inl (upd md1 (4 * n + 0) (nI d)))) := ⟨_, rfl⟩
            refine V.hp gh3 ?_
            have gk3 : ∀ q : Nat, q ≠ (B 6) → h_3 q = h1 q := fun q hq => by rw [gh3]; exact hset_ne hq
            have gs3 : h_3 (B 6) = some (.inl (0, 48, .inl (upd md1 (4 * n + 0) (nI d)))) := by rw [gh3]; exact hset_eq
            refine V.run hF [(.aload_n 0, 1, .null)] (pc' := 81) (L' := [some (.ref (B 0)), some (.int (nI t)), some (.int (nI n)), some (.int (nI d)), some (.int (nI c)), some (.int (nI w)), some (.int its)]) (st' := [.ref (B 0)]) (by decide +kernel) rfl ?_
            have gf4 : h_3 (B 0) = some (.inr (4, [.int x, .int (uth u), .int (nI (gT σ)), .ref (B 1), .ref (B 2), .ref (B 3), .ref (B 4), .ref (B 5), .int (nI (gy σ)), .int (gme σ), .int (gde σ), .ref (B 6), .ref (B 7)])) := (gk3 (B 0) (by first | assumption | exact Ne.symm (by assumption) | omega)).trans hM1.2.1
            refine V.getf hG hF k_RX4_30 (by decide +kernel) gf4 rfl ?_
            refine V.run hF [(.iconst 4, 1, .int (nI 4)), (.iload_n 2, 1, .null), (.imul, 1, .null), (.iconst 1, 1, .int (nI 1)), (.iadd, 1, .null)] (pc' := 89) (L' := [some (.ref (B 0)), some (.int (nI t)), some (.int (nI n)), some (.int (nI d)), some (.int (nI c)), some (.int (nI w)), some (.int its)]) (st' := [.int ((nI 4 * nI n) + nI 1), .ref (B 6)]) (by decide +kernel) rfl ?_
            rw [pk_mul, nI_add]
            refine V.run hF [(.iload 4, 2, .null)] (pc' := 91) (L' := [some (.ref (B 0)), some (.int (nI t)), some (.int (nI n)), some (.int (nI d)), some (.int (nI c)), some (.int (nI w)), some (.int its)]) (st' := [.int (nI c), .int (nI (4 * n + 1)), .ref (B 6)]) (by decide +kernel) rfl ?_
            refine V.iastN (j := 4 * n + 1) hG hF (by decide +kernel) gs3 (by omega) (by decide) ?_
            obtain ⟨h_5, gh5⟩ : ∃ z : Hp, z = hset h_3 (B 6) (.inl (0, 48, .inl (upd (upd md1 (4 * n + 0) (nI d)) (4 * n + 1) (nI c)))) := ⟨_, rfl⟩
            refine V.hp gh5 ?_
            have gk5 : ∀ q : Nat, q ≠ (B 6) → h_5 q = h_3 q := fun q hq => by rw [gh5]; exact hset_ne hq
            have gs5 : h_5 (B 6) = some (.inl (0, 48, .inl (upd (upd md1 (4 * n + 0) (nI d)) (4 * n + 1) (nI c)))) := by rw [gh5]; exact hset_eq
            refine V.run hF [(.aload_n 0, 1, .null)] (pc' := 93) (L' := [some (.ref (B 0)), some (.int (nI t)), some (.int (nI n)), some (.int (nI d)), some (.int (nI c)), some (.int (nI w)), some (.int its)]) (st' := [.ref (B 0)]) (by decide +kernel) rfl ?_
            have gf6 : h_5 (B 0) = some (.inr (4, [.int x, .int (uth u), .int (nI (gT σ)), .ref (B 1), .ref (B 2), .ref (B 3), .ref (B 4), .ref (B 5), .int (nI (gy σ)), .int (gme σ), .int (gde σ), .ref (B 6), .ref (B 7)])) := (gk5 (B 0) (by first | assumption | exact Ne.symm (by assumption) | omega)).trans gf4
            refine V.getf hG hF k_RX4_30 (by decide +kernel) gf6 rfl ?_
            refine V.run hF [(.iconst 4, 1, .int (nI 4)), (.iload_n 2, 1, .null), (.imul, 1, .null), (.iconst 2, 1, .int (nI 2)), (.iadd, 1, .null)] (pc' := 101) (L' := [some (.ref (B 0)), some (.int (nI t)), some (.int (nI n)), some (.int (nI d)), some (.int (nI c)), some (.int (nI w)), some (.int its)]) (st' := [.int ((nI 4 * nI n) + nI 2), .ref (B 6)]) (by decide +kernel) rfl ?_
            rw [pk_mul, nI_add]
            refine V.run hF [(.iload 6, 2, .null)] (pc' := 103) (L' := [some (.ref (B 0)), some (.int (nI t)), some (.int (nI n)), some (.int (nI d)), some (.int (nI c)), some (.int (nI w)), some (.int its)]) (st' := [.int its, .int (nI (4 * n + 2)), .ref (B 6)]) (by decide +kernel) rfl ?_
            refine V.iastN (j := 4 * n + 2) hG hF (by decide +kernel) gs5 (by omega) (by decide) ?_
            obtain ⟨h_7, gh7⟩ : ∃ z : Hp, z = hset h_5 (B 6) (.inl (0, 48, .inl (upd (upd (upd md1 (4 * n + 0) (nI d)) (4 * n + 1) (nI c)) (4 * n + 2) its))) := ⟨_, rfl⟩
            refine V.hp gh7 ?_
            have gk7 : ∀ q : Nat, q ≠ (B 6) → h_7 q = h_5 q := fun q hq => by rw [gh7]; exact hset_ne hq
            have gs7 : h_7 (B 6) = some (.inl (0, 48, .inl (upd (upd (upd md1 (4 * n + 0) (nI d)) (4 * n + 1) (nI c)) (4 * n + 2) its))) := by rw [gh7]; exact hset_eq
            refine V.run hF [(.aload_n 0, 1, .null)] (pc' := 105) (L' := [some (.ref (B 0)), some (.int (nI t)), some (.int (nI n)), some (.int (nI d)), some (.int (nI c)), some (.int (nI w)), some (.int its)]) (st' := [.ref (B 0)]) (by decide +kernel) rfl ?_
            have gf8 : h_7 (B 0) = some (.inr (4, [.int x, .int (uth u), .int (nI (gT σ)), .ref (B 1), .ref (B 2), .ref (B 3), .ref (B 4), .ref (B 5), .int (nI (gy σ)), .int (gme σ), .int (gde σ), .ref (B 6), .ref (B 7)])) := (gk7 (B 0) (by first | assumption | exact Ne.symm (by assumption) | omega)).trans gf6
            refine V.getf hG hF k_RX4_30 (by decide +kernel) gf8 rfl ?_
            refine V.run hF [(.iconst 4, 1, .int (nI 4)), (.iload_n 2, 1, .null), (.imul, 1, .null), (.iconst 3, 1, .int (nI 3)), (.iadd, 1, .null)] (pc' := 113) (L' := [some (.ref (B 0)), some (.int (nI t)), some (.int (nI n)), some (.int (nI d)), some (.int (nI c)), some (.int (nI w)), some (.int its)]) (st' := [.int ((nI 4 * nI n) + nI 3), .ref (B 6)]) (by decide +kernel) rfl ?_
            rw [pk_mul, nI_add]
            refine V.run hF [(.iload 5, 2, .null)] (pc' := 115) (L' := [some (.ref (B 0)), some (.int (nI t)), some (.int (nI n)), some (.int (nI d)), some (.int (nI c)), some (.int (nI w)), some (.int its)]) (st' := [.int (nI w), .int (nI (4 * n + 3)), .ref (B 6)]) (by decide +kernel) rfl ?_
            refine V.iastN (j := 4 * n + 3) hG hF (by decide +kernel) gs7 (by omega) (by decide) ?_
            obtain ⟨h_9, gh9⟩ : ∃ z : Hp, z = hset h_7 (B 6) (.inl (0, 48, .inl (upd (upd (upd (upd md1 (4 * n + 0) (nI d)) (4 * n + 1) (nI c)) (4 * n + 2) its) (4 * n + 3) (nI w)))) := ⟨_, rfl⟩
            refine V.hp gh9 ?_
            have gk9 : ∀ q : Nat, q ≠ (B 6) → h_9 q = h_7 q := fun q hq => by rw [gh9]; exact hset_ne hq
            have gs9 : h_9 (B 6) = some (.inl (0, 48, .inl (upd (upd (upd (upd md1 (4 * n + 0) (nI d)) (4 * n + 1) (nI c)) (4 * n + 2) its) (4 * n + 3) (nI w)))) := by rw [gh9]; exact hset_eq
            have hM2 := hM1.cmd gs9 (fun q hq => (gk9 q hq).trans ((gk7 q hq).trans ((gk5 q hq).trans (gk3 q hq))))
            have hk2 : kpB h h_9 B := hk1.tr (kpB.one (i := 6) (by omega) (fun q hq => (gk9 q hq).trans ((gk7 q hq).trans ((gk5 q hq).trans (gk3 q hq)))))
            refine V.run hF [(.iinc 2 1, 3, .int 1)] (pc' := 119) (L' := [some (.ref (B 0)), some (.int (nI t)), some (.int ((nI n) + 1)), some (.int (nI d)), some (.int (nI c)), some (.int (nI w)), some (.int its)]) (st' := []) (by decide +kernel) rfl ?_
            rw [nI_1 n]
            refine V.run hF [(.aload_n 0, 1, .null)] (pc' := 120) (L' := [some (.ref (B 0)), some (.int (nI t)), some (.int (nI (n + 1))), some (.int (nI d)), some (.int (nI c)), some (.int (nI w)), some (.int its)]) (st' := [.ref (B 0)]) (by decide +kernel) rfl ?_
            have gf10 : h_9 (B 0) = some (.inr (4, [.int x, .int (uth u), .int (nI (gT σ)), .ref (B 1), .ref (B 2), .ref (B 3), .ref (B 4), .ref (B 5), .int (nI (gy σ)), .int (gme σ), .int (gde σ), .ref (B 6), .ref (B 7)])) := (gk9 (B 0) (by first | assumption | exact Ne.symm (by assumption) | omega)).trans gf8
            refine V.getf hG hF k_RX4_33 (by decide +kernel) gf10 rfl ?_
            refine V.run hF [(.iload_n 3, 1, .null), (.dup2, 1, .null)] (pc' := 125) (L' := [some (.ref (B 0)), some (.int (nI t)), some (.int (nI (n + 1))), some (.int (nI d)), some (.int (nI c)), some (.int (nI w)), some (.int its)]) (st' := [.int (nI d), .ref (B 7), .int (nI d), .ref (B 7)]) (by decide +kernel) rfl ?_
            have gf11 : h_9 (B 7) = some (.inl (0, 8, .inl hs1)) := (gk9 (B 7) (by first | assumption | exact Ne.symm (by assumption) | omega)).trans ((gk7 (B 7) (by first | assumption | exact Ne.symm (by assumption) | omega)).trans ((gk5 (B 7) (by first | assumption | exact Ne.symm (by assumption) | omega)).trans ((gk3 (B 7) (by first | assumption | exact Ne.symm (by assumption) | omega)).trans hM1.2.2.2.2.2.2.2.2)))
            refine V.ialdN (j := d) hG hF (by decide +kernel) gf11 (by omega) (by decide) ?_
            refine V.run hF [(.iload 6, 2, .null), (.iadd, 1, .null)] (pc' := 129) (L' := [some (.ref (B 0)), some (.int (nI t)), some (.int (nI (n + 1))), some (.int (nI d)), some (.int (nI c)), some (.int (nI w)), some (.int its)]) (st' := [.int (hs1 d + its), .int (nI d), .ref (B 7)]) (by decide +kernel) rfl ?_
            refine V.iastN (j := d) hG hF (by decide +kernel) gf11 (by omega) (by decide) ?_
            obtain ⟨h_12, gh12⟩ : ∃ z : Hp, z = hset h_9 (B 7) (.inl (0, 8, .inl (upd hs1 d (hs1 d + its)))) := ⟨_, rfl⟩
            refine V.hp gh12 ?_
            have gk12 : ∀ q : Nat, q ≠ (B 7) → h_12 q = h_9 q := fun q hq => by rw [gh12]; exact hset_ne hq
            have gs12 : h_12 (B 7) = some (.inl (0, 8, .inl (upd hs1 d (hs1 d + its)))) := by rw [gh12]; exact hset_eq
            refine V.run hF [(.aload_n 0, 1, .null)] (pc' := 131) (L' := [some (.ref (B 0)), some (.int (nI t)), some (.int (nI (n + 1))), some (.int (nI d)), some (.int (nI c)), some (.int (nI w)), some (.int its)]) (st' := [.ref (B 0)]) (by decide +kernel) rfl ?_
            have gf13 : h_12 (B 0) = some (.inr (4, [.int x, .int (uth u), .int (nI (gT σ)), .ref (B 1), .ref (B 2), .ref (B 3), .ref (B 4), .ref (B 5), .int (nI (gy σ)), .int (gme σ), .int (gde σ), .ref (B 6), .ref (B 7)])) := (gk12 (B 0) (by first | assumption | exact Ne.symm (by assumption) | omega)).trans gf10
            refine V.getf hG hF k_RX4_33 (by decide +kernel) gf13 rfl ?_
            refine V.run hF [(.iload 4, 2, .null), (.dup2, 1, .null)] (pc' := 137) (L' := [some (.ref (B 0)), some (.int (nI t)), some (.int (nI (n + 1))), some (.int (nI d)), some (.int (nI c)), some (.int (nI w)), some (.int its)]) (st' := [.int (nI c), .ref (B 7), .int (nI c), .ref (B 7)]) (by decide +kernel) rfl ?_
            refine V.ialdN (j := c) hG hF (by decide +kernel) gs12 (by omega) (by decide) ?_
            refine V.run hF [(.iload 6, 2, .null), (.isub, 1, .null)] (pc' := 141) (L' := [some (.ref (B 0)), some (.int (nI t)), some (.int (nI (n + 1))), some (.int (nI d)), some (.int (nI c)), some (.int (nI w)), some (.int its)]) (st' := [.int ((upd hs1 d (hs1 d + its)) c - its), .int (nI c), .ref (B 7)]) (by decide +kernel) rfl ?_
            refine V.iastN (j := c) hG hF (by decide +kernel) gs12 (by omega) (by decide) ?_
            obtain ⟨h_14, gh14⟩ : ∃ z : Hp, z = hset h_12 (B 7) (.inl (0, 8, .inl (upd (upd hs1 d (hs1 d + its)) c ((upd hs1 d (hs1 d + its)) c - its)))) := ⟨_, rfl⟩
            refine V.hp gh14 ?_
            have gk14 : ∀ q : Nat, q ≠ (B 7) → h_14 q = h_12 q := fun q hq => by rw [gh14]; exact hset_ne hq
            have gs14 : h_14 (B 7) = some (.inl (0, 8, .inl (upd (upd hs1 d (hs1 d + its)) c ((upd hs1 d (hs1 d + its)) c - its)))) := by rw [gh14]; exact hset_eq
            have hM3 := hM2.chs gs14 (fun q hq => (gk14 q hq).trans (gk12 q hq))
            have hk3 : kpB h h_14 B := hk2.tr (kpB.one (i := 7) (by omega) (fun q hq => (gk14 q hq).trans (gk12 q hq)))
            have eb : upd (upd hs1 d (hs1 d + its)) c (upd hs1 d (hs1 d + its) c - its) = pb2 hs1 d c := by rw [eits]; rfl
            rw [eb] at hM3
            refine V.run hF [(.aload_n 0, 1, .null), (.iconst 0, 1, .int 0)] (pc' := 144) (L' := [some (.ref (B 0)), some (.int (nI t)), some (.int (nI (n + 1))), some (.int (nI d)), some (.int (nI c)), some (.int (nI w)), some (.int its)]) (st' := [.int 0, .ref (B 0)]) (by decide +kernel) rfl ?_
            have gf15 : h_14 (B 0) = some (.inr (4, [.int x, .int (uth u), .int (nI (gT σ)), .ref (B 1), .ref (B 2), .ref (B 3), .ref (B 4), .ref (B 5), .int (nI (gy σ)), .int (gme σ), .int (gde σ), .ref (B 6), .ref (B 7)])) := (gk14 (B 0) (by first | assumption | exact Ne.symm (by assumption) | omega)).trans gf13
            refine V.callV (As := [.int 0]) (st := []) hG hF k_RX4_74 (by decide +kernel) (c_X4_exMin hG hM3) gf15 rfl rfl ⟨by rw [hRm]; decide, by rw [hRm]; decide⟩ (Nat.le_of_ble_eq_true rfl) rfl (fun v h_16 gp16 => ?_) (fun E h9 hx => hx.elim)
            obtain ⟨rfl, he_gp16⟩ := gp16
            rw [he_gp16]
            show V G F _ _ _ 147 [some (.ref (B 0)), some (.int (nI t)), some (.int (nI (n + 1))), some (.int (nI d)), some (.int (nI c)), some (.int (nI w)), some (.int its)] [.int (nI (pmin (pb2 hs1 d c) 7))] h_14
            refine V.run hF [(.istore_n 3, 1, .null), (.goto (-131), 3, .null)] (pc' := 17) (L' := [some (.ref (B 0)), some (.int (nI t)), some (.int (nI (n + 1))), some (.int (nI (pmin (pb2 hs1 d c) 7))), some (.int (nI c)), some (.int (nI w)), some (.int its)]) (st' := []) (by decide +kernel) rfl ?_
            exact ih (n + 1) (by omega) _ _ _ _ _ _ hp3 (by rw [← hp2, ← mPS_s eits, eb]) hM3 hk3
          · skip
            exact absurd (show nI w < 0 by rw [c2]; decide) (nI_pos (by omega))
  refine V.run hF [(.aload_n 0, 1, .null)] (pc' := 1) (L' := [some (.ref (B 0)), some (.int (nI t)), none, none, none, none, none]) (st' := [.ref (B 0)]) (by decide +kernel) rfl ?_
  refine V.callV (As := []) (st := []) hG hF k_RX4_67 (by decide +kernel) (c_X4_clear hG hM) hM.2.1 rfl rfl ⟨by rw [hRm]; decide, by rw [hRm]; decide⟩ (Nat.le_of_ble_eq_true rfl) rfl (fun v2 h2 hp => ?_) (fun E h9 hx => hx.elim)
  obtain ⟨hv, hM2, hk2⟩ := hp
  rw [hv]
  show V G F _ _ _ 4 [some (.ref (B 0)), some (.int (nI t)), none, none, none, none, none] [] h2
  refine V.run hF [(.aload_n 0, 1, .null), (.iload_n 1, 1, .null)] (pc' := 6) (L' := [some (.ref (B 0)), some (.int (nI t)), none, none, none, none, none]) (st' := [.int (nI t), .ref (B 0)]) (by decide +kernel) rfl ?_
  refine V.callV (As := [.int (nI t)]) (st := []) hG hF k_RX4_70 (by decide +kernel) (c_X4_balance hG hM2 hR ht) hM2.2.1 rfl rfl ⟨by rw [hRm]; decide, by rw [hRm]; decide⟩ (Nat.le_of_ble_eq_true rfl) rfl (fun v3 h3 hp => ?_) (fun E h9 hx => hx.elim)
  obtain ⟨hv, g, hg, hM3, hk3⟩ := hp
  rw [hv]
  have hg : ∀ p, p < 8 → g p = gbal σ t p := fun p hp => by rw [hg p hp, mxk, if_pos hp, Int32.zero_add]
  show V G F _ _ _ 9 [some (.ref (B 0)), some (.int (nI t)), none, none, none, none, none] [] h3
  refine V.run hF [(.iconst 0, 1, .int (nI 0)), (.istore_n 2, 1, .null), (.aload_n 0, 1, .null), (.iconst 0, 1, .int 0)] (pc' := 13) (L' := [some (.ref (B 0)), some (.int (nI t)), some (.int (nI 0)), none, none, none, none]) (st' := [.int 0, .ref (B 0)]) (by decide +kernel) rfl ?_
  refine V.callV (As := [.int 0]) (st := []) hG hF k_RX4_74 (by decide +kernel) (c_X4_exMin hG hM3) hM3.2.1 rfl rfl ⟨by rw [hRm]; decide, by rw [hRm]; decide⟩ (Nat.le_of_ble_eq_true rfl) rfl (fun v h_3 gp3 => ?_) (fun E h9 hx => hx.elim)
  obtain ⟨rfl, he_gp3⟩ := gp3
  rw [he_gp3]
  show V G F _ _ _ 16 [some (.ref (B 0)), some (.int (nI t)), some (.int (nI 0)), none, none, none, none] [.int (nI (pmin g 7))] h3
  refine V.run hF [(.istore_n 3, 1, .null)] (pc' := 17) (L' := [some (.ref (B 0)), some (.int (nI t)), some (.int (nI 0)), some (.int (nI (pmin g 7))), none, none, none]) (st' := []) (by decide +kernel) rfl ?_
  exact loop g hg 8 0 (by omega) h3 md g none none none (hE g hg) rfl hM3 (hk2.tr hk3)
end Mt
