section M3
variable {G : Gt} {F : Ft} {Q : State → Prop} {own : String} {cc : ByteArray} {nL : Nat} {ret : Option FieldType} {kc ks pc : Nat} {L : List (Option Value)} {st : List Value} {h : Hp}
theorem V.ldcw (hG : GOk G) (hF : Ok G F own cc nL ret) {ix : Nat} {v : Int32} (hw : Cond.constant own ix v ∈ lw_tbl ∧ kw (Cond.constant own ix v) = true) (hd : decode cc pc = .ok (.ldc_w ix, 3)) (kk : V G F Q kc ks (pc + 3) L (.int v :: st) h) : V G F Q kc ks pc L st h :=
  fun H locs ls cells slots hR hS hL hz h1 h2 => lv_ldcw hF.1 hF.2.1 hF.2.2.2.2.1 (hF.wd hG hw.1 hw.2) hd (kk H locs ls cells slots hR hS hL hz h1 h2)
theorem V.aaldZ {a n j t : Nat} {f : Nat → Option Nat} (hG : GOk G) (hF : Ok G F own cc nL ret) (hd : decode cc pc = .ok (.aaload, 1)) (hc : h a = some (.inl (t, n, .inr (.inr (.inr (.inr f)))))) (hj : j < n) (hn : n < 2 ^ 31) (hf : f j = none) (kk : V G F Q kc ks (pc + 1) L (.null :: st) h) (ht : 2 ≤ t ∧ t < 5 := by decide) : V G F Q kc ks pc L (.int (nI j) :: .ref a :: st) h := by
  refine V.aaldN hG hF hd hc hj hn ?_ ht
  rw [hf]
  exact kk
theorem V.aaldS {a n j b t : Nat} {f : Nat → Option Nat} (hG : GOk G) (hF : Ok G F own cc nL ret) (hd : decode cc pc = .ok (.aaload, 1)) (hc : h a = some (.inl (t, n, .inr (.inr (.inr (.inr f)))))) (hj : j < n) (hn : n < 2 ^ 31) (hf : f j = some b) (kk : V G F Q kc ks (pc + 1) L (.ref b :: st) h) (ht : 2 ≤ t ∧ t < 5 := by decide) : V G F Q kc ks pc L (.int (nI j) :: .ref a :: st) h := by
  refine V.aaldN hG hF hd hc hj hn ?_ ht
  rw [hf]
  exact kk
theorem V.ifnull0 (hF : Ok G F own cc nL ret) {off : Int} {tgt : Nat} (hd : decode cc pc = .ok (.ifnull off, 3)) (ht : (pc : Int) + off = (tgt : Int)) (kk : V G F Q kc ks tgt L st h) : V G F Q kc ks pc L (.null :: st) h :=
  V.ifnull (r := none) hF hd ht (fun _ => kk) (fun a e => by cases e)
theorem V.ifnull1 (hF : Ok G F own cc nL ret) {off : Int} {b : Nat} (hd : decode cc pc = .ok (.ifnull off, 3)) (kk : V G F Q kc ks (pc + 3) L st h) : V G F Q kc ks pc L (.ref b :: st) h :=
  fun H locs ls cells slots hR hS hL hz h1 h2 => lv_ifnull hF.1 hF.2.1 hd (kk H locs ls cells slots hR hS hL hz h1 h2)
theorem V.ifnonnull0 (hF : Ok G F own cc nL ret) {off : Int} (hd : decode cc pc = .ok (.ifnonnull off, 3)) (kk : V G F Q kc ks (pc + 3) L st h) : V G F Q kc ks pc L (.null :: st) h :=
  fun H locs ls cells slots hR hS hL hz h1 h2 => lv_ifnonnullN hF.1 hF.2.1 hd (kk H locs ls cells slots hR hS hL hz h1 h2)
theorem V.ifnonnull1 (hF : Ok G F own cc nL ret) {off : Int} {tgt b : Nat} (hd : decode cc pc = .ok (.ifnonnull off, 3)) (ht : (pc : Int) + off = (tgt : Int)) (kk : V G F Q kc ks tgt L st h) : V G F Q kc ks pc L (.ref b :: st) h :=
  fun H locs ls cells slots hR hS hL hz h1 h2 => lv_ifnonnull hF.1 hF.2.1 hd ht (kk H locs ls cells slots hR hS hL hz h1 h2)
end M3
/-! ===== TallyWax: its state as numbers, and where it lies ===== -/
abbrev Sg : Type := (Nat → Int32) × Nat × (Nat → Int32) × (Nat → Int32) × (Nat → Nat) × ((Nat → Nat → Int32) × (Nat → Nat → Int32) × (Nat → Nat → Int32) × (Nat → Nat → Int32)) × (Nat → Int32) × Nat × Int32 × Int32
abbrev gth (σ : Sg) : Nat → Int32 := σ.1
abbrev gT (σ : Sg) : Nat := σ.2.1
abbrev gha (σ : Sg) : Nat → Int32 := σ.2.2.1
abbrev gce (σ : Sg) : Nat → Int32 := σ.2.2.2.1
abbrev gn (σ : Sg) : Nat → Nat := σ.2.2.2.2.1
abbrev gDD (σ : Sg) : Nat → Nat → Int32 := σ.2.2.2.2.2.1.1
abbrev gC (σ : Sg) : Nat → Nat → Int32 := σ.2.2.2.2.2.1.2.1
abbrev gM (σ : Sg) : Nat → Nat → Int32 := σ.2.2.2.2.2.1.2.2.1
abbrev gW (σ : Sg) : Nat → Nat → Int32 := σ.2.2.2.2.2.1.2.2.2
abbrev ghe (σ : Sg) : Nat → Int32 := σ.2.2.2.2.2.2.1
abbrev gy (σ : Sg) : Nat := σ.2.2.2.2.2.2.2.1
abbrev gme (σ : Sg) : Int32 := σ.2.2.2.2.2.2.2.2.1
abbrev gde (σ : Sg) : Int32 := σ.2.2.2.2.2.2.2.2.2
def Inj (A : Nat → Nat) (K : Nat) : Prop := ∀ i j, i < K → j < K → A i = A j → i = j
theorem Inj.ne {A : Nat → Nat} {K i j : Nat} (h : Inj A K) (hi : i < K) (hj : j < K) (hij : i ≠ j) : A i ≠ A j := fun e => hij (h i j hi hj e)
def shf (A : Nat → Nat) (T : Nat) : Nat → Option Nat := fun t => if t < T then some (A (12 + 6 * t)) else none
def TBc (h : Hp) (A : Nat → Nat) (σ : Sg) (t : Nat) : Prop := h (A (12 + 6 * t)) = some (.inr (2, [.int (gha σ t), .int (gce σ t), .ref (A (13 + 6 * t))])) ∧ LLc h (A (13 + 6 * t)) (A (14 + 6 * t)) (A (15 + 6 * t)) (A (16 + 6 * t)) (A (17 + 6 * t)) (gDD σ t) (gC σ t) (gM σ t) (gW σ t) (gn σ t) ∧ gn σ t ≤ 12
/-- the class's object, at A 0, with all that hangs on it -/
def CS (h : Hp) (A : Nat → Nat) (σ : Sg) (P : PS) (r : Nat → Int32) : Prop :=
  Inj A (12 + 6 * gT σ) ∧ gT σ ≤ 8 ∧ h (A 0) = some (.inr (3, [.ref (A 1), .ref (A 2), .ref (A 3), .ref (A 4), .ref (A 5), .int (nI (gT σ)), .int (nI (gy σ)), .int (gme σ), .int (gde σ)])) ∧
  h (A 1) = some (.inl (1, 8, .inl (gth σ))) ∧ h (A 2) = some (.inl (3, 8, .inr (.inr (.inr (.inr (shf A (gT σ))))))) ∧ h (A 3) = some (.inl (0, 10, .inl (ghe σ))) ∧
  SMc h (A 4) (A 6) (A 7) (A 8) (A 9) (A 10) (A 11) P ∧ h (A 5) = some (.inl (0, 8, .inl r)) ∧ ∀ t, t < gT σ → TBc h A σ t
theorem shf_in {A : Nat → Nat} {T t : Nat} (ht : t < T) : shf A T t = some (A (12 + 6 * t)) := if_pos ht
theorem shf_out {A : Nat → Nat} {T t : Nat} (ht : ¬ t < T) : shf A T t = none := if_neg ht
theorem nI_lit {k : Nat} {x : Int32} (e : nI k = x) : x = nI k := e.symm
theorem not_p {x : Int32} {n : Nat} (h : x < 0 ∨ nI n ≤ x) : ¬ (¬ x < 0 ∧ x < nI n) := fun q => by
  rcases h with h | h
  · exact q.1 h
  · exact absurd q.2 (Int32.not_lt.mpr h)
section Tw
variable {G : Gt} {h : Hp} {A : Nat → Nat} {σ : Sg} {P : PS} {r : Nat → Int32}
abbrev inP (x : Int32) : Prop := ¬ x < 0 ∧ x < 8
theorem inP_of {x : Int32} (hx : inP x) : ∃ p : Nat, p < 8 ∧ x = nI p := by
  rcases pk_ix x (n := 8) (by decide) with q | q | ⟨j, hj, e⟩
  · exact absurd q hx.1
  · exact absurd hx.2 (Int32.not_lt.mpr q)
  · exact ⟨j, hj, e⟩
theorem inP_nI {p : Nat} (hp : p < 8) : inP (nI p) := ⟨nI_pos (by omega), (nI_ltI (a := p) (b := 8) (by omega) (by decide)).mpr hp⟩
set_option maxHeartbeats 4000000 in
theorem c_X3_isPerson (x : Int32) : Ct G yX3_isPerson (.code yX3_isPerson cX3_isPerson 1 (some .boolean)) 0 0 0 0 [.int x] h (is_i (tf (inP x)) h) pxN := by
  refine Ct.of (by decide +kernel) (Nat.le_of_ble_eq_true rfl) fun F hF hT hN hRm => ?_
  refine V.run hF [(.iload_n 0, 1, .null)] (pc' := 1) (L' := [some (.int x)]) (st' := [.int x]) (by decide +kernel) rfl ?_
  refine V.if_lt hF (off := 13) (tgt := 14) (by decide +kernel) (by decide) (fun c1 => ?_) (fun c1 => ?_)
  · skip
    refine V.run hF [(.iconst 0, 1, .int 0)] (pc' := 15) (L' := [some (.int x)]) (st' := [.int 0]) (by decide +kernel) rfl ?_
    exact V.retz hF (by decide +kernel) rfl ⟨by rw [tf, if_neg (fun q => q.1 c1)], rfl⟩
  · skip
    refine V.run hF [(.iload_n 0, 1, .null), (.bipush 8, 2, .int (nI 8))] (pc' := 7) (L' := [some (.int x)]) (st' := [.int (nI 8), .int x]) (by decide +kernel) rfl ?_
    refine V.icmp_ge hF (off := 7) (tgt := 14) (by decide +kernel) (by decide) (fun c2 => ?_) (fun c2 => ?_)
    · skip
      refine V.run hF [(.iconst 0, 1, .int 0)] (pc' := 15) (L' := [some (.int x)]) (st' := [.int 0]) (by decide +kernel) rfl ?_
      exact V.retz hF (by decide +kernel) rfl ⟨by rw [tf, if_neg (fun q => absurd q.2 (Int32.not_lt.mpr c2))], rfl⟩
    · skip
      refine V.run hF [(.iconst 1, 1, .int 1), (.goto 4, 3, .null)] (pc' := 15) (L' := [some (.int x)]) (st' := [.int 1]) (by decide +kernel) rfl ?_
      exact V.retz hF (by decide +kernel) rfl ⟨by rw [tf, if_pos ⟨c1, Int32.not_le.mp c2⟩], rfl⟩
set_option maxHeartbeats 4000000 in
theorem c_X3_checkPerson (hG : GOk G) (x : Int32) : Ct G yX3_checkPerson (.code yX3_checkPerson cX3_checkPerson 1 none) 6 82 1 6 [.int x] h (is_v fun h' => inP x ∧ h' = h) (fun E h' => E = "java/lang/IndexOutOfBoundsException" ∧ ¬ inP x ∧ h' = h) := by
  refine Ct.of (by decide +kernel) (Nat.le_of_ble_eq_true rfl) fun F hF hT hN hRm => ?_
  refine V.run hF [(.iload_n 0, 1, .null)] (pc' := 1) (L' := [some (.int x)]) (st' := [.int x]) (by decide +kernel) rfl ?_
  refine V.callS (As := [.int x]) (st := []) hG hF k_RX3_226 (by decide +kernel) (c_X3_isPerson x) rfl ⟨by rw [hRm]; decide, by rw [hRm]; decide⟩ (Nat.le_of_ble_eq_true rfl) rfl (fun v h_1 gp1 => ?_) (fun E h9 hx => hx.elim)
  obtain ⟨rfl, he_gp1⟩ := gp1
  rw [he_gp1]
  show V G F _ _ _ 4 [some (.int x)] [.int (tf (inP x))] h
  refine V.if_ne hF (off := 13) (tgt := 17) (by decide +kernel) (by decide) (fun c1 => ?_) (fun c1 => ?_)
  · have hx : inP x := by
      by_cases q : inP x
      · exact q
      · rw [tf, if_neg q] at c1; exact absurd rfl c1
    exact V.retv hF (by decide +kernel) ⟨rfl, hx, rfl⟩
  · skip
    have hx : ¬ inP x := fun q => by
      rw [tf, if_pos q] at c1; cases c1
    exact V.throwS hG hF hT kt_RX3_229 (by decide +kernel) (by decide +kernel) (by decide +kernel) (by decide +kernel) (by decide +kernel) ⟨by rw [hRm]; decide, by rw [hRm]; decide⟩ ⟨rfl, hx, rfl⟩
/-- a person: nothing is thrown, no room is wanted -/
theorem c_X3_checkPerson_ok (hG : GOk G) {x : Int32} (hx : inP x) : Ct G yX3_checkPerson (.code yX3_checkPerson cX3_checkPerson 1 none) 1 20 0 0 [.int x] h (is_v fun h' => h' = h) pxN := by
  refine Ct.of (by decide +kernel) (Nat.le_of_ble_eq_true rfl) fun F hF hT hN hRm => ?_
  refine V.run hF [(.iload_n 0, 1, .null)] (pc' := 1) (L' := [some (.int x)]) (st' := [.int x]) (by decide +kernel) rfl ?_
  refine V.callS (As := [.int x]) (st := []) hG hF k_RX3_226 (by decide +kernel) (c_X3_isPerson x) rfl ⟨by rw [hRm]; decide, by rw [hRm]; decide⟩ (Nat.le_of_ble_eq_true rfl) rfl (fun v h_1 gp1 => ?_) (fun E h9 hx => hx.elim)
  obtain ⟨rfl, he_gp1⟩ := gp1
  rw [he_gp1]
  show V G F _ _ _ 4 [some (.int x)] [.int (tf (inP x))] h
  refine V.if_ne hF (off := 13) (tgt := 17) (by decide +kernel) (by decide) (fun c1 => ?_) (fun c1 => ?_)
  · skip
    exact V.retv hF (by decide +kernel) ⟨rfl, rfl⟩
  · skip
    rw [tf, if_pos hx] at c1
    cases c1
abbrev inY (x : Int32) : Prop := ¬ x < 1 ∧ x ≤ 40
set_option maxHeartbeats 4000000 in
theorem c_X3_checkYears (hG : GOk G) (x : Int32) : Ct G yX3_checkYears (.code yX3_checkYears cX3_checkYears 1 none) 6 82 1 6 [.int x] h (is_v fun h' => inY x ∧ h' = h) (fun E h' => E = "java/lang/IllegalArgumentException" ∧ ¬ inY x ∧ h' = h) := by
  refine Ct.of (by decide +kernel) (Nat.le_of_ble_eq_true rfl) fun F hF hT hN hRm => ?_
  refine V.run hF [(.iload_n 0, 1, .null), (.iconst 1, 1, .int 1)] (pc' := 2) (L' := [some (.int x)]) (st' := [.int 1, .int x]) (by decide +kernel) rfl ?_
  refine V.icmp_lt hF (off := 9) (tgt := 11) (by decide +kernel) (by decide) (fun c1 => ?_) (fun c1 => ?_)
  · skip
    exact V.throwS hG hF hT kt_RX3_231 (by decide +kernel) (by decide +kernel) (by decide +kernel) (by decide +kernel) (by decide +kernel) ⟨by rw [hRm]; decide, by rw [hRm]; decide⟩ ⟨rfl, fun q => q.1 c1, rfl⟩
  · skip
    refine V.run hF [(.iload_n 0, 1, .null), (.bipush 40, 2, .int (nI 40))] (pc' := 8) (L' := [some (.int x)]) (st' := [.int (nI 40), .int x]) (by decide +kernel) rfl ?_
    refine V.icmp_le hF (off := 13) (tgt := 21) (by decide +kernel) (by decide) (fun c2 => ?_) (fun c2 => ?_)
    · skip
      exact V.retv hF (by decide +kernel) ⟨rfl, ⟨c1, c2⟩, rfl⟩
    · skip
      exact V.throwS hG hF hT kt_RX3_231 (by decide +kernel) (by decide +kernel) (by decide +kernel) (by decide +kernel) (by decide +kernel) ⟨by rw [hRm]; decide, by rw [hRm]; decide⟩ ⟨rfl, fun q => c2 q.2, rfl⟩
set_option maxHeartbeats 4000000 in
theorem c_X3_isPresent (hG : GOk G) (hC : CS h A σ P r) (x : Int32) : Ct G yX3_isPresent (.code yX3_isPresent cX3_isPresent 2 (some .boolean)) 1 20 0 0 [.ref (A 0), .int x] h (is_i (tf (inP x ∧ ¬ gth σ x.toNatClampNeg = 0)) h) pxN := by
  refine Ct.of (by decide +kernel) (Nat.le_of_ble_eq_true rfl) fun F hF hT hN hRm => ?_
  obtain ⟨hI, hT8, hA, h1, h2, h3, h4, h5, h6⟩ := hC
  refine V.run hF [(.iload_n 1, 1, .null)] (pc' := 1) (L' := [some (.ref (A 0)), some (.int x)]) (st' := [.int x]) (by decide +kernel) rfl ?_
  refine V.callS (As := [.int x]) (st := []) hG hF k_RX3_226 (by decide +kernel) (c_X3_isPerson x) rfl ⟨by rw [hRm]; decide, by rw [hRm]; decide⟩ (Nat.le_of_ble_eq_true rfl) rfl (fun v h_1 gp1 => ?_) (fun E h9 hx => hx.elim)
  obtain ⟨rfl, he_gp1⟩ := gp1
  rw [he_gp1]
  show V G F _ _ _ 4 [some (.ref (A 0)), some (.int x)] [.int (tf (inP x))] h
  refine V.if_eq hF (off := 16) (tgt := 20) (by decide +kernel) (by decide) (fun c1 => ?_) (fun c1 => ?_)
  · skip
    refine V.run hF [(.iconst 0, 1, .int 0)] (pc' := 21) (L' := [some (.ref (A 0)), some (.int x)]) (st' := [.int 0]) (by decide +kernel) rfl ?_
    have hx : ¬ inP x := fun q => by
      rw [tf, if_pos q] at c1; cases c1
    exact V.retz hF (by decide +kernel) rfl ⟨by rw [tf, if_neg (fun q => hx q.1)], rfl⟩
  · skip
    have hx : inP x := by
      by_cases q : inP x
      · exact q
      · rw [tf, if_neg q] at c1; exact absurd rfl c1
    obtain ⟨p, hp, ep⟩ := inP_of hx
    have hin : vp_in x 8 := by rw [ep]; exact vp_in_nI hp (by decide)
    refine V.run hF [(.aload_n 0, 1, .null)] (pc' := 8) (L' := [some (.ref (A 0)), some (.int x)]) (st' := [.ref (A 0)]) (by decide +kernel) rfl ?_
    refine V.getf hG hF k_RX3_9 (by decide +kernel) hA rfl ?_
    refine V.run hF [(.iload_n 1, 1, .null)] (pc' := 12) (L' := [some (.ref (A 0)), some (.int x)]) (st' := [.int x, .ref (A 1)]) (by decide +kernel) rfl ?_
    refine V.zald hG hF (by decide +kernel) h1 (by assumption) ?_
    refine V.if_eq hF (off := 7) (tgt := 20) (by decide +kernel) (by decide) (fun c2 => ?_) (fun c2 => ?_)
    · skip
      refine V.run hF [(.iconst 0, 1, .int 0)] (pc' := 21) (L' := [some (.ref (A 0)), some (.int x)]) (st' := [.int 0]) (by decide +kernel) rfl ?_
      exact V.retz hF (by decide +kernel) rfl ⟨by rw [tf, if_neg (fun q => q.2 c2)], rfl⟩
    · skip
      refine V.run hF [(.iconst 1, 1, .int 1), (.goto 4, 3, .null)] (pc' := 21) (L' := [some (.ref (A 0)), some (.int x)]) (st' := [.int 1]) (by decide +kernel) rfl ?_
      exact V.retz hF (by decide +kernel) rfl ⟨by rw [tf, if_pos ⟨hx, c2⟩], rfl⟩
set_option maxHeartbeats 4000000 in
theorem c_X3_tabletAt (hG : GOk G) (hC : CS h A σ P r) (x : Int32) : Ct G yX3_tabletAt (.code yX3_tabletAt cX3_tabletAt 3 (some (.object "TallyWax$Tablet"))) 6 82 1 6 [.ref (A 0), .int x] h
    (fun v h' => (∃ t, t < gT σ ∧ x = nI t ∧ v = some (.ref (A (12 + 6 * t)))) ∧ h' = h) (fun E h' => E = "java/lang/IndexOutOfBoundsException" ∧ (x < 0 ∨ nI (gT σ) ≤ x) ∧ h' = h) := by
  refine Ct.of (by decide +kernel) (Nat.le_of_ble_eq_true rfl) fun F hF hT hN hRm => ?_
  obtain ⟨hI, hT8, hA, h1, h2, h3, h4, h5, h6⟩ := hC
  refine V.run hF [(.iload_n 1, 1, .null)] (pc' := 1) (L' := [some (.ref (A 0)), some (.int x), none]) (st' := [.int x]) (by decide +kernel) rfl ?_
  refine V.if_lt hF (off := 9) (tgt := 10) (by decide +kernel) (by decide) (fun c1 => ?_) (fun c1 => ?_)
  · skip
    exact V.throwS hG hF hT kt_RX3_222 (by decide +kernel) (by decide +kernel) (by decide +kernel) (by decide +kernel) (by decide +kernel) ⟨by rw [hRm]; decide, by rw [hRm]; decide⟩ ⟨rfl, Or.inl c1, rfl⟩
  · skip
    refine V.run hF [(.iload_n 1, 1, .null), (.bipush 8, 2, .int (nI 8))] (pc' := 7) (L' := [some (.ref (A 0)), some (.int x), none]) (st' := [.int (nI 8), .int x]) (by decide +kernel) rfl ?_
    refine V.icmp_lt hF (off := 13) (tgt := 20) (by decide +kernel) (by decide) (fun c2 => ?_) (fun c2 => ?_)
    · obtain ⟨t, ht, rfl⟩ := inP_of ⟨c1, c2⟩
      refine V.run hF [(.aload_n 0, 1, .null)] (pc' := 21) (L' := [some (.ref (A 0)), some (.int (nI t)), none]) (st' := [.ref (A 0)]) (by decide +kernel) rfl ?_
      refine V.getf hG hF k_RX3_15 (by decide +kernel) hA rfl ?_
      refine V.run hF [(.iload_n 1, 1, .null)] (pc' := 25) (L' := [some (.ref (A 0)), some (.int (nI t)), none]) (st' := [.int (nI t), .ref (A 2)]) (by decide +kernel) rfl ?_
      by_cases hc : t < gT σ
      · skip
        refine V.aaldS (j := t) (b := (A (12 + 6 * t))) hG hF (by decide +kernel) h2 (by omega) (by decide) (shf_in hc) ?_
        refine V.run hF [(.astore_n 2, 1, .null), (.aload_n 2, 1, .null)] (pc' := 28) (L' := [some (.ref (A 0)), some (.int (nI t)), some (.ref (A (12 + 6 * t)))]) (st' := [.ref (A (12 + 6 * t))]) (by decide +kernel) rfl ?_
        refine V.ifnonnull1 hF (off := 13) (tgt := 41) (by decide +kernel) (by decide) ?_
        refine V.run hF [(.aload_n 2, 1, .null)] (pc' := 42) (L' := [some (.ref (A 0)), some (.int (nI t)), some (.ref (A (12 + 6 * t)))]) (st' := [.ref (A (12 + 6 * t))]) (by decide +kernel) rfl ?_
        exact V.reta hF (by decide +kernel) ⟨⟨t, hc, rfl, rfl⟩, rfl⟩
      · skip
        refine V.aaldZ (j := t) hG hF (by decide +kernel) h2 (by omega) (by decide) (shf_out hc) ?_
        refine V.run hF [(.astore_n 2, 1, .null), (.aload_n 2, 1, .null)] (pc' := 28) (L' := [some (.ref (A 0)), some (.int (nI t)), some (.null)]) (st' := [.null]) (by decide +kernel) rfl ?_
        refine V.ifnonnull0 hF (off := 13) (by decide +kernel) ?_
        exact V.throwS hG hF hT kt_RX3_222 (by decide +kernel) (by decide +kernel) (by decide +kernel) (by decide +kernel) (by decide +kernel) ⟨by rw [hRm]; decide, by rw [hRm]; decide⟩ ⟨rfl, Or.inr ((nI_leI (by omega) (by omega)).mpr (by omega)), rfl⟩
    · skip
      exact V.throwS hG hF hT kt_RX3_222 (by decide +kernel) (by decide +kernel) (by decide +kernel) (by decide +kernel) (by decide +kernel) ⟨by rw [hRm]; decide, by rw [hRm]; decide⟩ ⟨rfl, Or.inr (Int32.le_trans ((nI_leI (a := gT σ) (b := 8) (by omega) (by decide)).mpr hT8) (Int32.not_lt.mp c2)), rfl⟩
end Tw
