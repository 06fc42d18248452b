/-! ===== TallyWaxModel: its state, and how it stands to the class's ===== -/
abbrev Mu : Type := Int32 × (Nat → Int32) × (Nat → Int32) × (Nat → Int32) × (Nat → Int32) × (Nat → Int32)
abbrev uth (u : Mu) : Int32 := u.1
abbrev uha (u : Mu) : Nat → Int32 := u.2.1
abbrev ubl (u : Mu) : Nat → Int32 := u.2.2.1
abbrev umn (u : Mu) : Nat → Int32 := u.2.2.2.1
abbrev uli (u : Mu) : Nat → Int32 := u.2.2.2.2.1
abbrev uhe (u : Mu) : Nat → Int32 := u.2.2.2.2.2
/-- the model's object, at B 0, and its arrays -/
def MO (h : Hp) (B : Nat → Nat) (σ : Sg) (x : Int32) (u : Mu) (md hs : Nat → Int32) : Prop :=
  Inj B 8 ∧ h (B 0) = some (.inr (4, [.int x, .int (uth u), .int (nI (gT σ)), .ref (B 1), .ref (B 2), .ref (B 3), .ref (B 4), .ref (B 5), .int (nI (gy σ)), .int (gme σ), .int (gde σ), .ref (B 6), .ref (B 7)])) ∧
  h (B 1) = some (.inl (0, 8, .inl (uha u))) ∧ h (B 2) = some (.inl (1, 8, .inl (ubl u))) ∧ h (B 3) = some (.inl (0, 8, .inl (umn u))) ∧ h (B 4) = some (.inl (0, 384, .inl (uli u))) ∧ h (B 5) = some (.inl (0, 10, .inl (uhe u))) ∧
  h (B 6) = some (.inl (0, 48, .inl md)) ∧ h (B 7) = some (.inl (0, 8, .inl hs))
/-- the model's numbers stand for the class's state -/
def RM (σ : Sg) (u : Mu) : Prop :=
  gT σ ≤ 8 ∧ (∀ p, p < 8 → (uth u >>> (nI p &&& 31)) &&& 1 = gth σ p ∧ b01 (gth σ p)) ∧ (∀ k, k < 10 → uhe u k = ghe σ k) ∧
  (∀ t, t < gT σ → uha u t = gha σ t ∧ ubl u t = gce σ t ∧ b01 (gce σ t) ∧ umn u t = nI (gn σ t) ∧ gn σ t ≤ 12 ∧ ∀ l, l < gn σ t → uli u (48 * t + 4 * l) = gDD σ t l ∧ uli u (48 * t + 4 * l + 1) = gC σ t l ∧ uli u (48 * t + 4 * l + 2) = gM σ t l ∧ uli u (48 * t + 4 * l + 3) = gW σ t l ∧ inP (gDD σ t l) ∧ inP (gC σ t l) ∧ inP (gW σ t l) ∧ gDD σ t l ≠ gC σ t l) ∧
  (∀ t, gT σ ≤ t → t < 8 → umn u t = 0 ∧ ubl u t = 0)
def kpB (h h' : Hp) (B : Nat → Nat) : Prop := ∀ q, (∀ i, i < 8 → q ≠ B i) → h' q = h q
theorem kpB.rf {h : Hp} {B : Nat → Nat} : kpB h h B := fun _ _ => rfl
theorem kpB.tr {h h1 h2 : Hp} {B : Nat → Nat} (p : kpB h h1 B) (q : kpB h1 h2 B) : kpB h h2 B := fun x e => (q x e).trans (p x e)
theorem kpB.one {h h' : Hp} {B : Nat → Nat} {i : Nat} (hi : i < 8) (hk : ∀ q, q ≠ B i → h' q = h q) : kpB h h' B := fun q e => hk q (e i hi)
abbrev inT (σ : Sg) (x : Int32) : Prop := ¬ x < 0 ∧ x < nI (gT σ)
abbrev inL (σ : Sg) (x y : Int32) : Prop := inT σ x ∧ ¬ y < 0 ∧ y < nI (gn σ x.toNatClampNeg)
theorem inN_iff {x : Int32} {n : Nat} (hn : n < 2 ^ 30) : (¬ x < 0 ∧ x < nI n) ↔ ∃ t, t < n ∧ x = nI t := by
  constructor
  · rintro ⟨h1, h2⟩
    rcases pk_ix x (n := n) (by omega) with q | q | ⟨j, hj, e⟩
    · exact absurd q h1
    · exact absurd h2 (Int32.not_lt.mpr q)
    · exact ⟨j, hj, e⟩
  · rintro ⟨t, ht, rfl⟩
    exact ⟨nI_pos (by omega), (nI_ltI (by omega) (by omega)).mpr ht⟩
theorem inT_iff {σ : Sg} {x : Int32} (h8 : gT σ ≤ 8) : inT σ x ↔ okT σ x := inN_iff (by omega)
theorem inL_iff {σ : Sg} {x y : Int32} (h8 : gT σ ≤ 8) (hn : ∀ t, t < gT σ → gn σ t ≤ 12) : inL σ x y ↔ okL σ x y := by
  constructor
  · rintro ⟨h1, h2⟩
    obtain ⟨t, ht, rfl⟩ := (inT_iff h8).mp h1
    rw [nI_clamp (by omega)] at h2
    obtain ⟨l, hl, rfl⟩ := (inN_iff (by have := hn t ht; omega)).mp h2
    exact ⟨t, l, ht, hl, rfl, rfl⟩
  · rintro ⟨t, l, ht, hl, rfl, rfl⟩
    refine ⟨(inT_iff h8).mpr ⟨t, ht, rfl⟩, ?_⟩
    rw [nI_clamp (by omega)]
    exact (inN_iff (by have := hn t ht; omega)).mpr ⟨l, hl, rfl⟩
section Mo
variable {G : Gt} {h : Hp} {B : Nat → Nat} {σ : Sg} {x : Int32} {u : Mu} {md hs : Nat → Int32}
theorem MO.th {h' : Hp} (hM : MO h B σ x u md hs) {y : Int32} (h0 : h' (B 0) = some (.inr (4, [.int y, .int (uth u), .int (nI (gT σ)), .ref (B 1), .ref (B 2), .ref (B 3), .ref (B 4), .ref (B 5), .int (nI (gy σ)), .int (gme σ), .int (gde σ), .ref (B 6), .ref (B 7)]))) (hk : ∀ q, q ≠ B 0 → h' q = h q) : MO h' B σ y u md hs := by
  obtain ⟨hI, -, h1, h2, h3, h4, h5, h6, h7⟩ := hM
  have n : ∀ i, i < 8 → i ≠ 0 → h' (B i) = h (B i) := fun i hi h => hk _ (hI.ne hi (by omega) h)
  exact ⟨hI, h0, (n 1 (by omega) (by omega)).trans h1, (n 2 (by omega) (by omega)).trans h2, (n 3 (by omega) (by omega)).trans h3, (n 4 (by omega) (by omega)).trans h4, (n 5 (by omega) (by omega)).trans h5, (n 6 (by omega) (by omega)).trans h6, (n 7 (by omega) (by omega)).trans h7⟩
theorem MO.chs {h' : Hp} (hM : MO h B σ x u md hs) {hs' : Nat → Int32} (h7 : h' (B 7) = some (.inl (0, 8, .inl hs'))) (hk : ∀ q, q ≠ B 7 → h' q = h q) : MO h' B σ x u md hs' := by
  obtain ⟨hI, h0, h1, h2, h3, h4, h5, h6, -⟩ := hM
  have n : ∀ i, i < 8 → i ≠ 7 → h' (B i) = h (B i) := fun i hi h => hk _ (hI.ne hi (by omega) h)
  exact ⟨hI, (n 0 (by omega) (by omega)).trans h0, (n 1 (by omega) (by omega)).trans h1, (n 2 (by omega) (by omega)).trans h2, (n 3 (by omega) (by omega)).trans h3, (n 4 (by omega) (by omega)).trans h4, (n 5 (by omega) (by omega)).trans h5, (n 6 (by omega) (by omega)).trans h6, h7⟩
theorem MO.cmd {h' : Hp} (hM : MO h B σ x u md hs) {md' : Nat → Int32} (h6 : h' (B 6) = some (.inl (0, 48, .inl md'))) (hk : ∀ q, q ≠ B 6 → h' q = h q) : MO h' B σ x u md' hs := by
  obtain ⟨hI, h0, h1, h2, h3, h4, h5, -, h7⟩ := hM
  have n : ∀ i, i < 8 → i ≠ 6 → h' (B i) = h (B i) := fun i hi h => hk _ (hI.ne hi (by omega) h)
  exact ⟨hI, (n 0 (by omega) (by omega)).trans h0, (n 1 (by omega) (by omega)).trans h1, (n 2 (by omega) (by omega)).trans h2, (n 3 (by omega) (by omega)).trans h3, (n 4 (by omega) (by omega)).trans h4, (n 5 (by omega) (by omega)).trans h5, h6, (n 7 (by omega) (by omega)).trans h7⟩
set_option maxHeartbeats 4000000 in
theorem c_X4_thrown (hG : GOk G) (hM : MO h B σ x u md hs) : Ct G yX4_thrown (.code yX4_thrown cX4_thrown 1 (some .int)) 0 0 0 0 [.ref (B 0)] h (is_i x h) pxN := by
  refine Ct.of (by decide +kernel) (Nat.le_of_ble_eq_true rfl) fun F hF hT hN hRm => ?_
  refine V.run hF [(.aload_n 0, 1, .null)] (pc' := 1) (L' := [some (.ref (B 0))]) (st' := [.ref (B 0)]) (by decide +kernel) rfl ?_
  refine V.getf hG hF k_RX4_36 (by decide +kernel) hM.2.1 rfl ?_
  exact V.reti hF (by decide +kernel) ⟨rfl, rfl⟩
theorem c_X4_fail (hG : GOk G) (hM : MO h B σ x u md hs) (y : Int32) : Ct G yX4_fail (.code yX4_fail cX4_fail 2 (some .int)) 0 0 0 0 [.ref (B 0), .int y] h (fun v h' => v = some (.int 0) ∧ MO h' B σ y u md hs ∧ kpB h h' B) pxN := by
  refine Ct.of (by decide +kernel) (Nat.le_of_ble_eq_true rfl) fun F hF hT hN hRm => ?_
  refine V.run hF [(.aload_n 0, 1, .null), (.iload_n 1, 1, .null)] (pc' := 2) (L' := [some (.ref (B 0)), some (.int y)]) (st' := [.int y, .ref (B 0)]) (by decide +kernel) rfl ?_
  refine V.putf hG hF k_RX4_36 (by decide +kernel) hM.2.1 (fun C T N hc => by cases hc; exact ⟨rfl, .int, by decide +kernel, rfl, rfl⟩) (Nat.le_of_ble_eq_true rfl) ?_
  obtain ⟨h_1, gh1⟩ : ∃ z : Hp, z = hset h (B 0) (.inr (4, [.int y, .int (uth u), .int (nI (gT σ)), .ref (B 1), .ref (B 2), .ref (B 3), .ref (B 4), .ref (B 5), .int (nI (gy σ)), .int (gme σ), .int (gde σ), .ref (B 6), .ref (B 7)])) := ⟨_, rfl⟩
  refine V.hp gh1 ?_
  have gk1 : ∀ q : Nat, q ≠ (B 0) → h_1 q = h q := fun q hq => by rw [gh1]; exact hset_ne hq
  have gs1 : h_1 (B 0) = some (.inr (4, [.int y, .int (uth u), .int (nI (gT σ)), .ref (B 1), .ref (B 2), .ref (B 3), .ref (B 4), .ref (B 5), .int (nI (gy σ)), .int (gme σ), .int (gde σ), .ref (B 6), .ref (B 7)])) := by rw [gh1]; exact hset_eq
  refine V.run hF [(.iconst 0, 1, .int 0)] (pc' := 6) (L' := [some (.ref (B 0)), some (.int y)]) (st' := [.int 0]) (by decide +kernel) rfl ?_
  exact V.reti hF (by decide +kernel) ⟨rfl, hM.th gs1 (fun q hq => gk1 q hq), kpB.one (i := 0) (by omega) (fun q hq => gk1 q hq)⟩
theorem c_X4_told (hG : GOk G) (hM : MO h B σ x u md hs) (y : Int32) : Ct G yX4_told (.code yX4_told cX4_told 2 (some .int)) 0 0 0 0 [.ref (B 0), .int y] h (fun v h' => v = some (.int y) ∧ MO h' B σ 0 u md hs ∧ kpB h h' B) pxN := by
  refine Ct.of (by decide +kernel) (Nat.le_of_ble_eq_true rfl) fun F hF hT hN hRm => ?_
  refine V.run hF [(.aload_n 0, 1, .null), (.iconst 0, 1, .int 0)] (pc' := 2) (L' := [some (.ref (B 0)), some (.int y)]) (st' := [.int 0, .ref (B 0)]) (by decide +kernel) rfl ?_
  refine V.putf hG hF k_RX4_36 (by decide +kernel) hM.2.1 (fun C T N hc => by cases hc; exact ⟨rfl, .int, by decide +kernel, rfl, rfl⟩) (Nat.le_of_ble_eq_true rfl) ?_
  obtain ⟨h_1, gh1⟩ : ∃ z : Hp, z = hset h (B 0) (.inr (4, [.int 0, .int (uth u), .int (nI (gT σ)), .ref (B 1), .ref (B 2), .ref (B 3), .ref (B 4), .ref (B 5), .int (nI (gy σ)), .int (gme σ), .int (gde σ), .ref (B 6), .ref (B 7)])) := ⟨_, rfl⟩
  refine V.hp gh1 ?_
  have gk1 : ∀ q : Nat, q ≠ (B 0) → h_1 q = h q := fun q hq => by rw [gh1]; exact hset_ne hq
  have gs1 : h_1 (B 0) = some (.inr (4, [.int 0, .int (uth u), .int (nI (gT σ)), .ref (B 1), .ref (B 2), .ref (B 3), .ref (B 4), .ref (B 5), .int (nI (gy σ)), .int (gme σ), .int (gde σ), .ref (B 6), .ref (B 7)])) := by rw [gh1]; exact hset_eq
  refine V.run hF [(.iload_n 1, 1, .null)] (pc' := 6) (L' := [some (.ref (B 0)), some (.int y)]) (st' := [.int y]) (by decide +kernel) rfl ?_
  exact V.reti hF (by decide +kernel) ⟨rfl, hM.th gs1 (fun q hq => gk1 q hq), kpB.one (i := 0) (by omega) (fun q hq => gk1 q hq)⟩
theorem c_X4_isIn (v lo hi : Int32) : Ct G yX4_isIn (.code yX4_isIn cX4_isIn 3 (some .boolean)) 0 0 0 0 [.int v, .int lo, .int hi] h (is_i (tf (¬ v < lo ∧ ¬ hi < v)) h) pxN := by
  refine Ct.of (by decide +kernel) (Nat.le_of_ble_eq_true rfl) fun F hF hT hN hRm => ?_
  refine V.run hF [(.iload_n 0, 1, .null), (.iload_n 1, 1, .null)] (pc' := 2) (L' := [some (.int v), some (.int lo), some (.int hi)]) (st' := [.int lo, .int v]) (by decide +kernel) rfl ?_
  refine V.icmp_lt hF (off := 12) (tgt := 14) (by decide +kernel) (by decide) (fun c1 => ?_) (fun c1 => ?_)
  · skip
    refine V.run hF [(.iconst 0, 1, .int 0)] (pc' := 15) (L' := [some (.int v), some (.int lo), some (.int hi)]) (st' := [.int 0]) (by decide +kernel) rfl ?_
    exact V.retz hF (by decide +kernel) rfl ⟨by rw [tf, if_neg (fun q => q.1 c1)], rfl⟩
  · skip
    refine V.run hF [(.iload_n 0, 1, .null), (.iload_n 2, 1, .null)] (pc' := 7) (L' := [some (.int v), some (.int lo), some (.int hi)]) (st' := [.int hi, .int v]) (by decide +kernel) rfl ?_
    refine V.icmp_gt hF (off := 7) (tgt := 14) (by decide +kernel) (by decide) (fun c2 => ?_) (fun c2 => ?_)
    · skip
      refine V.run hF [(.iconst 0, 1, .int 0)] (pc' := 15) (L' := [some (.int v), some (.int lo), some (.int hi)]) (st' := [.int 0]) (by decide +kernel) rfl ?_
      exact V.retz hF (by decide +kernel) rfl ⟨by rw [tf, if_neg (fun q => q.2 c2)], rfl⟩
    · skip
      refine V.run hF [(.iconst 1, 1, .int 1), (.goto 4, 3, .null)] (pc' := 15) (L' := [some (.int v), some (.int lo), some (.int hi)]) (st' := [.int 1]) (by decide +kernel) rfl ?_
      exact V.retz hF (by decide +kernel) rfl ⟨by rw [tf, if_pos ⟨c1, c2⟩], rfl⟩
theorem tf_iff {a b : Prop} [Decidable a] [Decidable b] (h : a ↔ b) : tf a = tf b := by
  by_cases q : a
  · rw [tf, tf, if_pos q, if_pos (h.mp q)]
  · rw [tf, tf, if_neg q, if_neg (fun z => q (h.mpr z))]
theorem le_sub1 {x : Int32} {n : Nat} (hn : n < 2 ^ 30) : ¬ nI n - 1 < x ↔ x < nI n := by
  rw [Int32.lt_iff_toInt_lt, Int32.lt_iff_toInt_lt, show (1 : Int32) = nI 1 from rfl, pk_sub_toInt hn (by decide), nI_toInt (by omega)]
  omega
theorem c_X4_isPerson (hG : GOk G) (v : Int32) : Ct G yX4_isPerson (.code yX4_isPerson cX4_isPerson 1 (some .boolean)) 1 22 0 0 [.int v] h (is_i (tf (inP v)) h) pxN := by
  refine Ct.of (by decide +kernel) (Nat.le_of_ble_eq_true rfl) fun F hF hT hN hRm => ?_
  refine V.run hF [(.iload_n 0, 1, .null), (.iconst 0, 1, .int 0), (.bipush 7, 2, .int (nI 7))] (pc' := 4) (L' := [some (.int v)]) (st' := [.int (nI 7), .int 0, .int v]) (by decide +kernel) rfl ?_
  refine V.callS (As := [.int v, .int 0, .int (nI 7)]) (st := []) hG hF k_RX4_39 (by decide +kernel) (c_X4_isIn v 0 (nI 7)) rfl ⟨by rw [hRm]; decide, by rw [hRm]; decide⟩ (Nat.le_of_ble_eq_true rfl) rfl (fun v h_1 gp1 => ?_) (fun E h9 hx => hx.elim)
  obtain ⟨rfl, he_gp1⟩ := gp1
  rw [he_gp1]
  show V G F _ _ _ 7 [some (.int v)] [.int (tf (¬ v < 0 ∧ ¬ nI 7 < v))] h
  exact V.retz hF (by decide +kernel) (nz (tf01 _)) ⟨by rw [tf_iff (b := inP v) (and_congr Iff.rfl (by rw [show nI 7 = nI 8 - 1 from by decide]; exact le_sub1 (by decide)))], rfl⟩
theorem c_X4_isTablet (hG : GOk G) (hM : MO h B σ x u md hs) (h8 : gT σ ≤ 8) (v : Int32) : Ct G yX4_isTablet (.code yX4_isTablet cX4_isTablet 2 (some .boolean)) 1 22 0 0 [.ref (B 0), .int v] h (is_i (tf (inT σ v)) h) pxN := by
  refine Ct.of (by decide +kernel) (Nat.le_of_ble_eq_true rfl) fun F hF hT hN hRm => ?_
  refine V.run hF [(.iload_n 1, 1, .null), (.iconst 0, 1, .int 0), (.aload_n 0, 1, .null)] (pc' := 3) (L' := [some (.ref (B 0)), some (.int v)]) (st' := [.ref (B 0), .int 0, .int v]) (by decide +kernel) rfl ?_
  refine V.getf hG hF k_RX4_43 (by decide +kernel) hM.2.1 rfl ?_
  refine V.run hF [(.iconst 1, 1, .int 1), (.isub, 1, .null)] (pc' := 8) (L' := [some (.ref (B 0)), some (.int v)]) (st' := [.int (nI (gT σ) - 1), .int 0, .int v]) (by decide +kernel) rfl ?_
  refine V.callS (As := [.int v, .int 0, .int (nI (gT σ) - 1)]) (st := []) hG hF k_RX4_39 (by decide +kernel) (c_X4_isIn v 0 (nI (gT σ) - 1)) rfl ⟨by rw [hRm]; decide, by rw [hRm]; decide⟩ (Nat.le_of_ble_eq_true rfl) rfl (fun v h_1 gp1 => ?_) (fun E h9 hx => hx.elim)
  obtain ⟨rfl, he_gp1⟩ := gp1
  rw [he_gp1]
  show V G F _ _ _ 11 [some (.ref (B 0)), some (.int v)] [.int (tf (¬ v < 0 ∧ ¬ nI (gT σ) - 1 < v))] h
  exact V.retz hF (by decide +kernel) (nz (tf01 _)) ⟨by rw [tf_iff (b := inT σ v) (and_congr Iff.rfl (le_sub1 (by omega)))], rfl⟩
set_option maxHeartbeats 4000000 in
theorem c_X4_isLine (hG : GOk G) (hM : MO h B σ x u md hs) (hR : RM σ u) (v w : Int32) : Ct G yX4_isLine (.code yX4_isLine cX4_isLine 3 (some .boolean)) 2 43 0 0 [.ref (B 0), .int v, .int w] h (is_i (tf (inL σ v w)) h) pxN := by
  refine Ct.of (by decide +kernel) (Nat.le_of_ble_eq_true rfl) fun F hF hT hN hRm => ?_
  have h8 := hR.1
  refine V.run hF [(.aload_n 0, 1, .null), (.iload_n 1, 1, .null)] (pc' := 2) (L' := [some (.ref (B 0)), some (.int v), some (.int w)]) (st' := [.int v, .ref (B 0)]) (by decide +kernel) rfl ?_
  refine V.callV (As := [.int v]) (st := []) hG hF k_RX4_46 (by decide +kernel) (c_X4_isTablet hG hM hR.1 v) hM.2.1 rfl rfl ⟨by rw [hRm]; decide, by rw [hRm]; decide⟩ (Nat.le_of_ble_eq_true rfl) rfl (fun v h_1 gp1 => ?_) (fun E h9 hx => hx.elim)
  obtain ⟨rfl, he_gp1⟩ := gp1
  rw [he_gp1]
  show V G F _ _ _ 5 [some (.ref (B 0)), some (.int v), some (.int w)] [.int (tf (inT σ v))] h
  refine V.if_eq hF (off := 23) (tgt := 28) (by decide +kernel) (by decide) (fun c1 => ?_) (fun c1 => ?_)
  · skip
    refine V.run hF [(.iconst 0, 1, .int 0)] (pc' := 29) (L' := [some (.ref (B 0)), some (.int v), some (.int w)]) (st' := [.int 0]) (by decide +kernel) rfl ?_
    exact V.retz hF (by decide +kernel) rfl ⟨by rw [tf, if_neg (fun q => tf_0 c1 q.1)], rfl⟩
  · skip
    have q := tf_1 c1
    obtain ⟨t, ht, rfl⟩ := (inT_iff hR.1).mp q
    obtain ⟨-, -, -, e1, e2, -⟩ := hR.2.2.2.1 t ht
    have ec : (nI t).toNatClampNeg = t := nI_clamp (by omega)
    refine V.run hF [(.iload_n 2, 1, .null), (.iconst 0, 1, .int 0), (.aload_n 0, 1, .null)] (pc' := 11) (L' := [some (.ref (B 0)), some (.int (nI t)), some (.int w)]) (st' := [.ref (B 0), .int 0, .int w]) (by decide +kernel) rfl ?_
    refine V.getf hG hF k_RX4_21 (by decide +kernel) hM.2.1 rfl ?_
    refine V.run hF [(.iload_n 1, 1, .null)] (pc' := 15) (L' := [some (.ref (B 0)), some (.int (nI t)), some (.int w)]) (st' := [.int (nI t), .ref (B 3), .int 0, .int w]) (by decide +kernel) rfl ?_
    refine V.ialdN (j := t) hG hF (by decide +kernel) hM.2.2.2.2.1 (by omega) (by decide) ?_
    rw [e1]
    refine V.run hF [(.iconst 1, 1, .int 1), (.isub, 1, .null)] (pc' := 18) (L' := [some (.ref (B 0)), some (.int (nI t)), some (.int w)]) (st' := [.int (nI (gn σ t) - 1), .int 0, .int w]) (by decide +kernel) rfl ?_
    refine V.callS (As := [.int w, .int 0, .int (nI (gn σ t) - 1)]) (st := []) hG hF k_RX4_39 (by decide +kernel) (c_X4_isIn w 0 (nI (gn σ t) - 1)) rfl ⟨by rw [hRm]; decide, by rw [hRm]; decide⟩ (Nat.le_of_ble_eq_true rfl) rfl (fun v h_2 gp2 => ?_) (fun E h9 hx => hx.elim)
    obtain ⟨rfl, he_gp2⟩ := gp2
    rw [he_gp2]
    show V G F _ _ _ 21 [some (.ref (B 0)), some (.int (nI t)), some (.int w)] [.int (tf (¬ w < 0 ∧ ¬ nI (gn σ t) - 1 < w))] h
    have et := tf_iff (a := ¬ w < 0 ∧ ¬ nI (gn σ t) - 1 < w) (b := inL σ (nI t) w) ⟨fun z => ⟨q, z.1, by rw [ec]; exact (le_sub1 (by omega)).mp z.2⟩, fun z => ⟨z.2.1, (le_sub1 (by omega)).mpr (by have := z.2.2; rw [ec] at this; exact this)⟩⟩
    rw [et]
    refine V.if_eq hF (off := 7) (tgt := 28) (by decide +kernel) (by decide) (fun c2 => ?_) (fun c2 => ?_)
    · skip
      refine V.run hF [(.iconst 0, 1, .int 0)] (pc' := 29) (L' := [some (.ref (B 0)), some (.int (nI t)), some (.int w)]) (st' := [.int 0]) (by decide +kernel) rfl ?_
      exact V.retz hF (by decide +kernel) rfl ⟨by rw [c2], rfl⟩
    · skip
      refine V.run hF [(.iconst 1, 1, .int 1), (.goto 4, 3, .null)] (pc' := 29) (L' := [some (.ref (B 0)), some (.int (nI t)), some (.int w)]) (st' := [.int 1]) (by decide +kernel) rfl ?_
      exact V.retz hF (by decide +kernel) rfl ⟨by rw [tf, if_pos (tf_1 c2)], rfl⟩
end Mo
