/-! ===== TallyWax: who owes along; years ===== -/
abbrev hB (x : Int32) (v : Nat) : Prop := ¬ (x >>> (nI v &&& 31)) &&& 1 = 0
def whF (v : Nat) : Nat → (Nat → Int32) → (Nat → Int32)
  | 0, r => r
  | f + 1, r => if hB (whF v f r f) v then upd (whF v f r) f (whF v f r f ||| whF v f r v) else whF v f r
def whV : Nat → (Nat → Int32) → (Nat → Int32)
  | 0, r => r
  | v + 1, r => whF v 8 (whV v r)
abbrev R0 (σ : Sg) : Nat → Int32 := fun p => cbT σ (nI p) (gT σ)
def ush (x : Int32) (k : Int32) : Int32 := (Int32.toUInt32 x >>> (Int32.toUInt32 k &&& Int32.toUInt32 31)).toInt32
def bc1 (x : Int32) : Int32 := x - ush x 1 &&& 1431655765
def bcA (x : Int32) : Int32 := x - (ush x 1 &&& 1431655765)
def bcB (x : Int32) : Int32 := (x &&& 858993459) + (ush x 2 &&& 858993459)
def bcC (x : Int32) : Int32 := (x + ush x 4) &&& 252645135
def bcD (x : Int32) : Int32 := x + ush x 8
def bcE (x : Int32) : Int32 := x + ush x 16
def bcf (x : Int32) : Int32 := bcE (bcD (bcC (bcB (bcA x)))) &&& 63
section Re
variable {G : Gt} {h : Hp} {A : Nat → Nat} {σ : Sg} {P : PS} {r : Nat → Int32}
set_option maxHeartbeats 4000000 in
theorem c_J_bitCount (hG : GOk G) (x : Int32) : Ct G yJ6_bitCount_0f7a4 (.code yJ6_bitCount_0f7a4 cJ6_bitCount_0f7a4 1 (some .int)) 0 0 0 0 [.int x] h (is_i (bcf x) h) pxN := by
  refine Ct.ofJ (by decide +kernel) (Nat.le_of_ble_eq_true rfl) fun F hF hT hN hRm => ?_
  refine V.run hF [(.iload_n 0, 1, .null), (.iload_n 0, 1, .null), (.iconst 1, 1, .int 1), (.iushr, 1, .null)] (pc' := 4) (L' := [some (.int x)]) (st' := [.int ((Int32.toUInt32 x >>> (Int32.toUInt32 1 &&& Int32.toUInt32 31)).toInt32), .int x]) (by decide +kernel) rfl ?_
  refine V.ldcw hG hF tw_329 (by decide +kernel) ?_
  refine V.run hF [(.iand, 1, .null), (.isub, 1, .null), (.istore_n 0, 1, .null)] (pc' := 10) (L' := [some (.int (x - (((Int32.toUInt32 x >>> (Int32.toUInt32 1 &&& Int32.toUInt32 31)).toInt32) &&& 1431655765)))]) (st' := []) (by decide +kernel) rfl ?_
  obtain ⟨y1, hy1⟩ : ∃ y : Int32, y = x - (((Int32.toUInt32 x >>> (Int32.toUInt32 1 &&& Int32.toUInt32 31)).toInt32) &&& 1431655765) := ⟨_, rfl⟩
  rw [← hy1]
  refine V.run hF [(.iload_n 0, 1, .null)] (pc' := 11) (L' := [some (.int y1)]) (st' := [.int y1]) (by decide +kernel) rfl ?_
  refine V.ldcw hG hF tw_330 (by decide +kernel) ?_
  refine V.run hF [(.iand, 1, .null), (.iload_n 0, 1, .null), (.iconst 2, 1, .int 2), (.iushr, 1, .null)] (pc' := 18) (L' := [some (.int y1)]) (st' := [.int ((Int32.toUInt32 y1 >>> (Int32.toUInt32 2 &&& Int32.toUInt32 31)).toInt32), .int (y1 &&& 858993459)]) (by decide +kernel) rfl ?_
  refine V.ldcw hG hF tw_330 (by decide +kernel) ?_
  refine V.run hF [(.iand, 1, .null), (.iadd, 1, .null), (.istore_n 0, 1, .null)] (pc' := 24) (L' := [some (.int ((y1 &&& 858993459) + (((Int32.toUInt32 y1 >>> (Int32.toUInt32 2 &&& Int32.toUInt32 31)).toInt32) &&& 858993459)))]) (st' := []) (by decide +kernel) rfl ?_
  obtain ⟨y2, hy2⟩ : ∃ y : Int32, y = (y1 &&& 858993459) + (((Int32.toUInt32 y1 >>> (Int32.toUInt32 2 &&& Int32.toUInt32 31)).toInt32) &&& 858993459) := ⟨_, rfl⟩
  rw [← hy2]
  refine V.run hF [(.iload_n 0, 1, .null), (.iload_n 0, 1, .null), (.iconst 4, 1, .int 4), (.iushr, 1, .null), (.iadd, 1, .null)] (pc' := 29) (L' := [some (.int y2)]) (st' := [.int (y2 + ((Int32.toUInt32 y2 >>> (Int32.toUInt32 4 &&& Int32.toUInt32 31)).toInt32))]) (by decide +kernel) rfl ?_
  refine V.ldcw hG hF tw_331 (by decide +kernel) ?_
  refine V.run hF [(.iand, 1, .null), (.istore_n 0, 1, .null)] (pc' := 34) (L' := [some (.int ((y2 + ((Int32.toUInt32 y2 >>> (Int32.toUInt32 4 &&& Int32.toUInt32 31)).toInt32)) &&& 252645135))]) (st' := []) (by decide +kernel) rfl ?_
  obtain ⟨y3, hy3⟩ : ∃ y : Int32, y = (y2 + ((Int32.toUInt32 y2 >>> (Int32.toUInt32 4 &&& Int32.toUInt32 31)).toInt32)) &&& 252645135 := ⟨_, rfl⟩
  rw [← hy3]
  refine V.run hF [(.iload_n 0, 1, .null), (.iload_n 0, 1, .null), (.bipush 8, 2, .int (nI 8)), (.iushr, 1, .null), (.iadd, 1, .null), (.istore_n 0, 1, .null)] (pc' := 41) (L' := [some (.int (y3 + ((Int32.toUInt32 y3 >>> (Int32.toUInt32 (nI 8) &&& Int32.toUInt32 31)).toInt32)))]) (st' := []) (by decide +kernel) rfl ?_
  obtain ⟨y4, hy4⟩ : ∃ y : Int32, y = y3 + ((Int32.toUInt32 y3 >>> (Int32.toUInt32 (nI 8) &&& Int32.toUInt32 31)).toInt32) := ⟨_, rfl⟩
  rw [← hy4]
  refine V.run hF [(.iload_n 0, 1, .null), (.iload_n 0, 1, .null), (.bipush 16, 2, .int (nI 16)), (.iushr, 1, .null), (.iadd, 1, .null), (.istore_n 0, 1, .null)] (pc' := 48) (L' := [some (.int (y4 + ((Int32.toUInt32 y4 >>> (Int32.toUInt32 (nI 16) &&& Int32.toUInt32 31)).toInt32)))]) (st' := []) (by decide +kernel) rfl ?_
  obtain ⟨y5, hy5⟩ : ∃ y : Int32, y = y4 + ((Int32.toUInt32 y4 >>> (Int32.toUInt32 (nI 16) &&& Int32.toUInt32 31)).toInt32) := ⟨_, rfl⟩
  rw [← hy5]
  refine V.run hF [(.iload_n 0, 1, .null), (.bipush 63, 2, .int (nI 63)), (.iand, 1, .null)] (pc' := 52) (L' := [some (.int y5)]) (st' := [.int (y5 &&& nI 63)]) (by decide +kernel) rfl ?_
  exact V.reti hF (by decide +kernel) ⟨by rw [hy5, hy4, hy3, hy2, hy1]; rfl, rfl⟩
set_option maxHeartbeats 4000000 in
theorem c_X3_followLines (hG : GOk G) (hC : CS h A σ P r) : Ct G yX3_followLines (.code yX3_followLines cX3_followLines 3 none) 2 49 0 0 [.ref (A 0)] h (is_v fun h' => CS h' A σ P (whV 8 (R0 σ)) ∧ ∀ q, q ≠ A 5 → h' q = h q) pxN := by
  refine Ct.of (by decide +kernel) (Nat.le_of_ble_eq_true rfl) fun F hF hT hN hRm => ?_
  have fn : ∀ {j1 j2 : Int32} {h1 : Hp} {r1 : Nat → Int32}, CS h1 A σ P (whV 8 (R0 σ)) → (∀ q, q ≠ A 5 → h1 q = h q) → V G F (fin G F (is_v fun h' => CS h' A σ P (whV 8 (R0 σ)) ∧ ∀ q, q ≠ A 5 → h' q = h q) pxN) 0 0 81 [some (.ref (A 0)), some (.int j1), none] [] h1 := fun hC1 hk1 => by
    exact V.retv hF (by decide +kernel) ⟨rfl, hC1, hk1⟩
  have loopB : ∀ v, v ≤ 8 → ∀ (h1 : Hp), CS h1 A σ P (whV v (R0 σ)) → (∀ q, q ≠ A 5 → h1 q = h q) → V G F (fin G F (is_v fun h' => CS h' A σ P (whV 8 (R0 σ)) ∧ ∀ q, q ≠ A 5 → h' q = h q) pxN) 0 0 27 [some (.ref (A 0)), some (.int (nI v)), none] [] h1 := by
    refine lp_up 8 fun v hv ih => ?_
    intro h1 hC1 hk1
    have loopC : ∀ f, f ≤ 8 → v < 8 → ∀ (h2 : Hp), CS h2 A σ P (whF v f (whV v (R0 σ))) → (∀ q, q ≠ A 5 → h2 q = h q) → V G F (fin G F (is_v fun h' => CS h' A σ P (whV 8 (R0 σ)) ∧ ∀ q, q ≠ A 5 → h' q = h q) pxN) 0 0 35 [some (.ref (A 0)), some (.int (nI v)), some (.int (nI f))] [] h2 := by
      refine lp_up 8 fun f hf ihf => ?_
      intro hv8 h2 hC2 hk2
      obtain ⟨r2, hr2⟩ : ∃ r2, r2 = whF v f (whV v (R0 σ)) := ⟨_, rfl⟩
      have hw : whF v (f + 1) (whV v (R0 σ)) = if hB (r2 f) v then upd r2 f (r2 f ||| r2 v) else r2 := by rw [whF, hr2]
      rw [← hr2] at hC2
      obtain ⟨hI, hT8, gA, g1, g2, g3, g4, g5, g6⟩ := id hC2
      have n05 : A 0 ≠ A 5 := hI.ne (by omega) (by omega) (by omega)
      refine V.run hF [(.iload_n 2, 1, .null), (.bipush 8, 2, .int (nI 8))] (pc' := 38) (L' := [some (.ref (A 0)), some (.int (nI v)), some (.int (nI f))]) (st' := [.int (nI 8), .int (nI f)]) (by decide +kernel) rfl ?_
      refine V.icmpN_ge (i := f) (j := 8) hF (off := 37) (tgt := 75) (by decide +kernel) (by decide) (by omega) (by omega) (fun c1 => ?_) (fun c1 => ?_)
      · have e : f = 8 := by omega
        rw [hr2, e] at hC2
        refine V.run hF [(.iinc 1 1, 3, .int 1), (.goto (-51), 3, .null)] (pc' := 27) (L' := [some (.ref (A 0)), some (.int ((nI v) + 1)), some (.int (nI f))]) (st' := []) (by decide +kernel) rfl ?_
        rw [nI_1 v]
        have := ih hv8 h2 hC2 hk2
        exact V.loc (fun j v hv => by
          match j, hv with
          | 0, hv => exact hv
          | 1, hv => exact hv
          | 2, hv => cases hv
          | q + 3, hv => cases hv) this
      · skip
        refine V.run hF [(.aload_n 0, 1, .null)] (pc' := 42) (L' := [some (.ref (A 0)), some (.int (nI v)), some (.int (nI f))]) (st' := [.ref (A 0)]) (by decide +kernel) rfl ?_
        refine V.getf hG hF k_RX3_30 (by decide +kernel) gA rfl ?_
        refine V.run hF [(.iload_n 2, 1, .null)] (pc' := 46) (L' := [some (.ref (A 0)), some (.int (nI v)), some (.int (nI f))]) (st' := [.int (nI f), .ref (A 5)]) (by decide +kernel) rfl ?_
        refine V.ialdN (j := f) hG hF (by decide +kernel) g5 (by omega) (by decide) ?_
        refine V.run hF [(.iload_n 1, 1, .null)] (pc' := 48) (L' := [some (.ref (A 0)), some (.int (nI v)), some (.int (nI f))]) (st' := [.int (nI v), .int (r2 f)]) (by decide +kernel) rfl ?_
        refine V.callS (As := [.int (r2 f), .int (nI v)]) (st := []) hG hF k_RX3_169 (by decide +kernel) (c_X3_holds (r2 f) (nI v)) rfl ⟨by rw [hRm]; decide, by rw [hRm]; decide⟩ (Nat.le_of_ble_eq_true rfl) rfl (fun v h_1 gp1 => ?_) (fun E h9 hx => hx.elim)
        obtain ⟨rfl, he_gp1⟩ := gp1
        rw [he_gp1]
        show V G F _ _ _ 51 [some (.ref (A 0)), some (.int (nI v)), some (.int (nI f))] [.int (tf (hB (r2 f) v))] h2
        refine V.if_eq hF (off := 18) (tgt := 69) (by decide +kernel) (by decide) (fun c2 => ?_) (fun c2 => ?_)
        · have q : ¬ hB (r2 f) v := fun q => by
            rw [tf, if_pos q] at c2; cases c2
          rw [if_neg q] at hw
          refine V.run hF [(.iinc 2 1, 3, .int 1), (.goto (-37), 3, .null)] (pc' := 35) (L' := [some (.ref (A 0)), some (.int (nI v)), some (.int ((nI f) + 1))]) (st' := []) (by decide +kernel) rfl ?_
          rw [nI_1 f]
          exact ihf c1 hv8 h2 (by rw [hw]; exact hC2) hk2
        · skip
          have q : hB (r2 f) v := by
            by_cases q : hB (r2 f) v
            · exact q
            · rw [tf, if_neg q] at c2; exact absurd rfl c2
          rw [if_pos q] at hw
          refine V.run hF [(.aload_n 0, 1, .null)] (pc' := 55) (L' := [some (.ref (A 0)), some (.int (nI v)), some (.int (nI f))]) (st' := [.ref (A 0)]) (by decide +kernel) rfl ?_
          refine V.getf hG hF k_RX3_30 (by decide +kernel) gA rfl ?_
          refine V.run hF [(.iload_n 2, 1, .null), (.dup2, 1, .null)] (pc' := 60) (L' := [some (.ref (A 0)), some (.int (nI v)), some (.int (nI f))]) (st' := [.int (nI f), .ref (A 5), .int (nI f), .ref (A 5)]) (by decide +kernel) rfl ?_
          refine V.ialdN (j := f) hG hF (by decide +kernel) g5 (by omega) (by decide) ?_
          refine V.run hF [(.aload_n 0, 1, .null)] (pc' := 62) (L' := [some (.ref (A 0)), some (.int (nI v)), some (.int (nI f))]) (st' := [.ref (A 0), .int (r2 f), .int (nI f), .ref (A 5)]) (by decide +kernel) rfl ?_
          refine V.getf hG hF k_RX3_30 (by decide +kernel) gA rfl ?_
          refine V.run hF [(.iload_n 1, 1, .null)] (pc' := 66) (L' := [some (.ref (A 0)), some (.int (nI v)), some (.int (nI f))]) (st' := [.int (nI v), .ref (A 5), .int (r2 f), .int (nI f), .ref (A 5)]) (by decide +kernel) rfl ?_
          refine V.ialdN (j := v) hG hF (by decide +kernel) g5 (by omega) (by decide) ?_
          refine V.run hF [(.ior, 1, .null)] (pc' := 68) (L' := [some (.ref (A 0)), some (.int (nI v)), some (.int (nI f))]) (st' := [.int (r2 f ||| r2 v), .int (nI f), .ref (A 5)]) (by decide +kernel) rfl ?_
          refine V.iastN (j := f) hG hF (by decide +kernel) g5 (by omega) (by decide) ?_
          obtain ⟨h_2, gh2⟩ : ∃ z : Hp, z = hset h2 (A 5) (.inl (0, 8, .inl (upd r2 f (r2 f ||| r2 v)))) := ⟨_, rfl⟩
          refine V.hp gh2 ?_
          have gk2 : ∀ q : Nat, q ≠ (A 5) → h_2 q = h2 q := fun q hq => by rw [gh2]; exact hset_ne hq
          have gs2 : h_2 (A 5) = some (.inl (0, 8, .inl (upd r2 f (r2 f ||| r2 v)))) := by rw [gh2]; exact hset_eq
          have hC3 := hC2.re gs2 (fun q hq => gk2 q hq)
          have hk3 : ∀ q, q ≠ A 5 → h_2 q = h q := fun q hq => (gk2 q hq).trans (hk2 q hq)
          refine V.run hF [(.iinc 2 1, 3, .int 1), (.goto (-37), 3, .null)] (pc' := 35) (L' := [some (.ref (A 0)), some (.int (nI v)), some (.int ((nI f) + 1))]) (st' := []) (by decide +kernel) rfl ?_
          rw [nI_1 f]
          exact ihf c1 hv8 h_2 (by rw [hw]; exact hC3) hk3
    refine V.run hF [(.iload_n 1, 1, .null), (.bipush 8, 2, .int (nI 8))] (pc' := 30) (L' := [some (.ref (A 0)), some (.int (nI v)), none]) (st' := [.int (nI 8), .int (nI v)]) (by decide +kernel) rfl ?_
    refine V.icmpN_ge (i := v) (j := 8) hF (off := 51) (tgt := 81) (by decide +kernel) (by decide) (by omega) (by omega) (fun c1 => ?_) (fun c1 => ?_)
    · have e : v = 8 := by omega
      rw [e] at hC1
      exact V.retv hF (by decide +kernel) ⟨rfl, hC1, hk1⟩
    · skip
      refine V.run hF [(.iconst 0, 1, .int 0), (.istore_n 2, 1, .null)] (pc' := 35) (L' := [some (.ref (A 0)), some (.int (nI v)), some (.int 0)]) (st' := []) (by decide +kernel) rfl ?_
      exact loopC 0 (Nat.zero_le _) c1 h1 hC1 hk1
  have loopA : ∀ i, i ≤ 8 → ∀ (h1 : Hp), CS h1 A σ P (mxk i (R0 σ) r) → (∀ q, q ≠ A 5 → h1 q = h q) → V G F (fin G F (is_v fun h' => CS h' A σ P (whV 8 (R0 σ)) ∧ ∀ q, q ≠ A 5 → h' q = h q) pxN) 0 0 2 [some (.ref (A 0)), some (.int (nI i)), none] [] h1 := by
    refine lp_up 8 fun i hi ih => ?_
    intro h1 hC1 hk1
    obtain ⟨hI, hT8, gA, g1, g2, g3, g4, g5, g6⟩ := id hC1
    refine V.run hF [(.iload_n 1, 1, .null), (.bipush 8, 2, .int (nI 8))] (pc' := 5) (L' := [some (.ref (A 0)), some (.int (nI i)), none]) (st' := [.int (nI 8), .int (nI i)]) (by decide +kernel) rfl ?_
    refine V.icmpN_ge (i := i) (j := 8) hF (off := 20) (tgt := 25) (by decide +kernel) (by decide) (by omega) (by omega) (fun c1 => ?_) (fun c1 => ?_)
    · have e8 : ∀ j, j < 8 → mxk i (R0 σ) r j = R0 σ j := fun j hj => if_pos (by omega)
      refine V.extI g5 e8 ?_
      refine V.run hF [(.iconst 0, 1, .int 0), (.istore_n 1, 1, .null)] (pc' := 27) (L' := [some (.ref (A 0)), some (.int 0), none]) (st' := []) (by decide +kernel) rfl ?_
      have kk : ∀ q : Nat, q ≠ A 5 → hset h1 (A 5) (.inl (0, 8, .inl (R0 σ))) q = h1 q := fun q hq => hset_ne hq
      exact loopB 0 (Nat.zero_le _) _ (hC1.re hset_eq kk) (fun q hq => (kk q hq).trans (hk1 q hq))
    · skip
      refine V.run hF [(.aload_n 0, 1, .null)] (pc' := 9) (L' := [some (.ref (A 0)), some (.int (nI i)), none]) (st' := [.ref (A 0)]) (by decide +kernel) rfl ?_
      refine V.getf hG hF k_RX3_30 (by decide +kernel) gA rfl ?_
      refine V.run hF [(.iload_n 1, 1, .null), (.aload_n 0, 1, .null), (.iload_n 1, 1, .null)] (pc' := 15) (L' := [some (.ref (A 0)), some (.int (nI i)), none]) (st' := [.int (nI i), .ref (A 0), .int (nI i), .ref (A 5)]) (by decide +kernel) rfl ?_
      refine V.callV (As := [.int (nI i)]) (st := [.int (nI i), .ref (A 5)]) hG hF k_RX3_244 (by decide +kernel) (c_X3_creditorBits hG hC1 (nI i)) gA rfl rfl ⟨by rw [hRm]; decide, by rw [hRm]; decide⟩ (Nat.le_of_ble_eq_true rfl) rfl (fun v h_1 gp1 => ?_) (fun E h9 hx => hx.elim)
      obtain ⟨rfl, he_gp1⟩ := gp1
      rw [he_gp1]
      show V G F _ _ _ 18 [some (.ref (A 0)), some (.int (nI i)), none] [.int (cbT σ (nI i) (gT σ)), .int (nI i), .ref (A 5)] h1
      refine V.iastN (j := i) hG hF (by decide +kernel) g5 (by omega) (by decide) ?_
      obtain ⟨h_2, gh2⟩ : ∃ z : Hp, z = hset h1 (A 5) (.inl (0, 8, .inl (upd (mxk i (R0 σ) r) i (cbT σ (nI i) (gT σ))))) := ⟨_, rfl⟩
      refine V.hp gh2 ?_
      have gk2 : ∀ q : Nat, q ≠ (A 5) → h_2 q = h1 q := fun q hq => by rw [gh2]; exact hset_ne hq
      have gs2 : h_2 (A 5) = some (.inl (0, 8, .inl (upd (mxk i (R0 σ) r) i (cbT σ (nI i) (gT σ))))) := by rw [gh2]; exact hset_eq
      have hC3 := hC1.re gs2 (fun q hq => gk2 q hq)
      have hk3 : ∀ q, q ≠ A 5 → h_2 q = h q := fun q hq => (gk2 q hq).trans (hk1 q hq)
      refine V.run hF [(.iinc 1 1, 3, .int 1), (.goto (-20), 3, .null)] (pc' := 2) (L' := [some (.ref (A 0)), some (.int ((nI i) + 1)), none]) (st' := []) (by decide +kernel) rfl ?_
      rw [nI_1 i]
      exact ih c1 h_2 (by rw [← mxk_s]; exact hC3) hk3
  refine V.run hF [(.iconst 0, 1, .int 0), (.istore_n 1, 1, .null)] (pc' := 2) (L' := [some (.ref (A 0)), some (.int 0), none]) (st' := []) (by decide +kernel) rfl ?_
  exact loopA 0 (Nat.zero_le _) h (by rw [mxk_0]; exact hC) (fun _ _ => rfl)
/-- the answer x, the state as it was, but the row 'reached' -/
def is_r (A : Nat → Nat) (σ : Sg) (P : PS) (h : Hp) (x : Int32) : Option Value → Hp → Prop := fun v h' => v = some (.int x) ∧ ∃ r', CS h' A σ P r' ∧ kpC h h' A (12 + 6 * gT σ)
abbrev gOA (σ : Sg) (p : Int32) : Int32 := bcf (whV 8 (R0 σ) p.toNatClampNeg &&& (1 <<< (p &&& 31) ^^^ -1))
set_option maxHeartbeats 4000000 in
theorem c_X3_owesAlong (hG : GOk G) (hC : CS h A σ P r) (p : Int32) : Ct G yX3_owesAlong (.code yX3_owesAlong cX3_owesAlong 2 (some .int)) 7 102 1 6 [.ref (A 0), .int p] h (fun v h' => inP p ∧ is_r A σ P h (gOA σ p) v h') (fun E h' => E = eI ∧ ¬ inP p ∧ h' = h) := by
  refine Ct.of (by decide +kernel) (Nat.le_of_ble_eq_true rfl) fun F hF hT hN hRm => ?_
  refine V.run hF [(.iload_n 1, 1, .null)] (pc' := 1) (L' := [some (.ref (A 0)), some (.int p)]) (st' := [.int p]) (by decide +kernel) rfl ?_
  refine V.callS (As := [.int p]) (st := []) hG hF k_RX3_60 (by decide +kernel) (c_X3_checkPerson hG p) rfl ⟨by rw [hRm]; decide, by rw [hRm]; decide⟩ (Nat.le_of_ble_eq_true rfl) rfl (fun v h1' hp => ?_) (fun E h9 hx => VX.out hF hT ⟨hx.1, hx.2.1, hx.2.2⟩)
  obtain ⟨rfl, hx, he⟩ := hp
  rw [he]
  show V G F _ _ _ 4 [some (.ref (A 0)), some (.int p)] [] h
  refine V.less (Nat.zero_le _) (Nat.zero_le _) (?_ : V G F _ 0 0 4 [some (.ref (A 0)), some (.int p)] [] h)
  have hin : vp_in p 8 := by
    obtain ⟨q, hq, eq⟩ := inP_of hx
    rw [eq]
    exact vp_in_nI hq (by decide)
  refine V.run hF [(.aload_n 0, 1, .null)] (pc' := 5) (L' := [some (.ref (A 0)), some (.int p)]) (st' := [.ref (A 0)]) (by decide +kernel) rfl ?_
  refine V.callV (As := []) (st := []) hG hF k_RX3_161 (by decide +kernel) (c_X3_followLines hG hC) hC.2.2.1 rfl rfl ⟨by rw [hRm]; decide, by rw [hRm]; decide⟩ (Nat.le_of_ble_eq_true rfl) rfl (fun v h2 hp => ?_) (fun E h9 hx => hx.elim)
  obtain ⟨rfl, hC2, hk2⟩ := hp
  show V G F _ _ _ 8 [some (.ref (A 0)), some (.int p)] [] h2
  refine V.run hF [(.aload_n 0, 1, .null)] (pc' := 9) (L' := [some (.ref (A 0)), some (.int p)]) (st' := [.ref (A 0)]) (by decide +kernel) rfl ?_
  refine V.getf hG hF k_RX3_30 (by decide +kernel) hC2.2.2.1 rfl ?_
  refine V.run hF [(.iload_n 1, 1, .null)] (pc' := 13) (L' := [some (.ref (A 0)), some (.int p)]) (st' := [.int p, .ref (A 5)]) (by decide +kernel) rfl ?_
  refine V.iald hG hF (by decide +kernel) hC2.2.2.2.2.2.2.2.1 (by assumption) ?_
  refine V.run hF [(.iconst 1, 1, .int 1), (.iload_n 1, 1, .null), (.ishl, 1, .null), (.iconst (-1), 1, .int (-1)), (.ixor, 1, .null), (.iand, 1, .null)] (pc' := 20) (L' := [some (.ref (A 0)), some (.int p)]) (st' := [.int ((whV 8 (R0 σ)) (Int32.toNatClampNeg p) &&& ((1 <<< (p &&& 31)) ^^^ (-1)))]) (by decide +kernel) rfl ?_
  refine V.callS (As := [.int ((whV 8 (R0 σ)) (Int32.toNatClampNeg p) &&& ((1 <<< (p &&& 31)) ^^^ (-1)))]) (st := []) hG hF k_RX3_164 (by decide +kernel) (c_J_bitCount hG _) rfl ⟨by rw [hRm]; decide, by rw [hRm]; decide⟩ (Nat.le_of_ble_eq_true rfl) rfl (fun v h_3 gp3 => ?_) (fun E h9 hx => hx.elim)
  obtain ⟨rfl, he_gp3⟩ := gp3
  rw [he_gp3]
  show V G F _ _ _ 23 [some (.ref (A 0)), some (.int p)] [.int (gOA σ p)] h2
  exact V.reti hF (by decide +kernel) ⟨hx, rfl, _, hC2, kpC.one (by omega) hk2⟩
/-- somebody gets back to itself -/
def rnd (w : Nat → Int32) : Nat → Nat → Int32
  | 0, _ => 0
  | f + 1, i => if hB (w i) i then 1 else rnd w f (i + 1)
set_option maxHeartbeats 4000000 in
theorem c_X3_isRound (hG : GOk G) (hC : CS h A σ P r) : Ct G yX3_isRound (.code yX3_isRound cX3_isRound 2 (some .boolean)) 3 71 0 0 [.ref (A 0)] h (is_r A σ P h (rnd (whV 8 (R0 σ)) 8 0)) pxN := by
  refine Ct.of (by decide +kernel) (Nat.le_of_ble_eq_true rfl) fun F hF hT hN hRm => ?_
  refine V.run hF [(.aload_n 0, 1, .null)] (pc' := 1) (L' := [some (.ref (A 0)), none]) (st' := [.ref (A 0)]) (by decide +kernel) rfl ?_
  refine V.callV (As := []) (st := []) hG hF k_RX3_161 (by decide +kernel) (c_X3_followLines hG hC) hC.2.2.1 rfl rfl ⟨by rw [hRm]; decide, by rw [hRm]; decide⟩ (Nat.le_of_ble_eq_true rfl) rfl (fun v h2 hp => ?_) (fun E h9 hx => hx.elim)
  obtain ⟨rfl, hC2, hk2⟩ := hp
  obtain ⟨w, hw⟩ : ∃ w, w = whV 8 (R0 σ) := ⟨_, rfl⟩
  rw [← hw]
  rw [← hw] at hC2
  have loop : ∀ i, i ≤ 8 → V G F (fin G F (is_r A σ P h (rnd w (8 - i) i)) pxN) 0 0 6 [some (.ref (A 0)), some (.int (nI i))] [] h2 := by
    refine lp_up 8 fun i hi ih => ?_
    refine V.run hF [(.iload_n 1, 1, .null), (.bipush 8, 2, .int (nI 8))] (pc' := 9) (L' := [some (.ref (A 0)), some (.int (nI i))]) (st' := [.int (nI 8), .int (nI i)]) (by decide +kernel) rfl ?_
    refine V.icmpN_ge (i := i) (j := 8) hF (off := 24) (tgt := 33) (by decide +kernel) (by decide) (by omega) (by omega) (fun c1 => ?_) (fun c1 => ?_)
    · have e : 8 - i = 0 := by omega
      refine V.run hF [(.iconst 0, 1, .int 0)] (pc' := 34) (L' := [some (.ref (A 0)), some (.int (nI i))]) (st' := [.int 0]) (by decide +kernel) rfl ?_
      exact V.retz hF (by decide +kernel) rfl ⟨by rw [e]; rfl, _, hC2, kpC.one (by omega) hk2⟩
    · skip
      have e8 : 8 - i = (8 - (i + 1)) + 1 := by omega
      refine V.run hF [(.aload_n 0, 1, .null)] (pc' := 13) (L' := [some (.ref (A 0)), some (.int (nI i))]) (st' := [.ref (A 0)]) (by decide +kernel) rfl ?_
      refine V.getf hG hF k_RX3_30 (by decide +kernel) hC2.2.2.1 rfl ?_
      refine V.run hF [(.iload_n 1, 1, .null)] (pc' := 17) (L' := [some (.ref (A 0)), some (.int (nI i))]) (st' := [.int (nI i), .ref (A 5)]) (by decide +kernel) rfl ?_
      refine V.ialdN (j := i) hG hF (by decide +kernel) hC2.2.2.2.2.2.2.2.1 (by omega) (by decide) ?_
      refine V.run hF [(.iload_n 1, 1, .null)] (pc' := 19) (L' := [some (.ref (A 0)), some (.int (nI i))]) (st' := [.int (nI i), .int (w i)]) (by decide +kernel) rfl ?_
      refine V.callS (As := [.int (w i), .int (nI i)]) (st := []) hG hF k_RX3_169 (by decide +kernel) (c_X3_holds (w i) (nI i)) rfl ⟨by rw [hRm]; decide, by rw [hRm]; decide⟩ (Nat.le_of_ble_eq_true rfl) rfl (fun v h_2 gp2 => ?_) (fun E h9 hx => hx.elim)
      obtain ⟨rfl, he_gp2⟩ := gp2
      rw [he_gp2]
      show V G F _ _ _ 22 [some (.ref (A 0)), some (.int (nI i))] [.int (tf (hB (w i) i))] h2
      refine V.if_eq hF (off := 5) (tgt := 27) (by decide +kernel) (by decide) (fun c2 => ?_) (fun c2 => ?_)
      · have q : ¬ hB (w i) i := fun q => by
          rw [tf, if_pos q] at c2; cases c2
        refine V.run hF [(.iinc 1 1, 3, .int 1), (.goto (-24), 3, .null)] (pc' := 6) (L' := [some (.ref (A 0)), some (.int ((nI i) + 1))]) (st' := []) (by decide +kernel) rfl ?_
        rw [nI_1 i]
        rw [e8, rnd, if_neg q]
        exact ih c1
      · skip
        have q : hB (w i) i := by
          by_cases q : hB (w i) i
          · exact q
          · rw [tf, if_neg q] at c2; exact absurd rfl c2
        refine V.run hF [(.iconst 1, 1, .int 1)] (pc' := 26) (L' := [some (.ref (A 0)), some (.int (nI i))]) (st' := [.int 1]) (by decide +kernel) rfl ?_
        exact V.retz hF (by decide +kernel) rfl ⟨by rw [e8, rnd, if_pos q], _, hC2, kpC.one (by omega) hk2⟩
  show V G F _ _ _ 4 [some (.ref (A 0)), none] [] h2
  refine V.run hF [(.iconst 0, 1, .int 0), (.istore_n 1, 1, .null)] (pc' := 6) (L' := [some (.ref (A 0)), some (.int 0)]) (st' := []) (by decide +kernel) rfl ?_
  exact loop 0 (Nat.zero_le _)
end Re
