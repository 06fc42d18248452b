/-! ===== TallyWaxModel: digest, the tablets ===== -/
def kpN (h h' : Hp) (B : Nat → Nat) : Prop := ∀ q c, h q = some c → (∀ i, i < 8 → q ≠ B i) → h' q = some c
theorem kpN.rf {h : Hp} {B : Nat → Nat} : kpN h h B := fun _ _ e _ => e
theorem kpN.kB {h h1 h2 : Hp} {B : Nat → Nat} (p : kpN h h1 B) (q : kpB h1 h2 B) : kpN h h2 B := fun x c e1 e2 => (q x e2).trans (p x c e1 e2)
/-- cell e is new since h -/
def isN (h : Hp) (B : Nat → Nat) (e : Nat) : Prop := (∀ q c, h q = some c → (∀ i, i < 8 → q ≠ B i) → q ≠ e) ∧ ∀ i, i < 8 → B i ≠ e
theorem kpN.st {h h1 h2 : Hp} {B : Nat → Nat} {e : Nat} (p : kpN h h1 B) (he : isN h B e) (k : ∀ z, z ≠ e → h2 z = h1 z) : kpN h h2 B := fun x c e1 e2 => (k x (he.1 x c e1 e2)).trans (p x c e1 e2)
section Nj
variable {G : Gt} {F : Ft} {h h' : Hp} {B : Nat → Nat} {σ : Sg} {x : Int32} {u : Mu} {md hs : Nat → Int32}
theorem MO.live (hM : MO h B σ x u md hs) {i : Nat} (hi : i < 8) : ∃ c, h (B i) = some c := by
  obtain ⟨hI, h0, h1, h2, h3, h4, h5, h6, h7⟩ := hM
  have : i = 0 ∨ i = 1 ∨ i = 2 ∨ i = 3 ∨ i = 4 ∨ i = 5 ∨ i = 6 ∨ i = 7 := by omega
  rcases this with rfl | rfl | rfl | rfl | rfl | rfl | rfl | rfl <;> exact ⟨_, by assumption⟩
theorem MO.keep (hM : MO h B σ x u md hs) {e : Nat} (he : ∀ i, i < 8 → B i ≠ e) (k : ∀ z, z ≠ e → h' z = h z) : MO h' B σ x u md hs := by
  obtain ⟨hI, h0, h1, h2, h3, h4, h5, h6, h7⟩ := hM
  exact ⟨hI, (k _ (he 0 (by omega))).trans h0, (k _ (he 1 (by omega))).trans h1, (k _ (he 2 (by omega))).trans h2, (k _ (he 3 (by omega))).trans h3, (k _ (he 4 (by omega))).trans h4, (k _ (he 5 (by omega))).trans h5, (k _ (he 6 (by omega))).trans h6, (k _ (he 7 (by omega))).trans h7⟩
theorem isN.of {h1 : Hp} (p : kpN h h1 B) (hM : MO h1 B σ x u md hs) {e : Nat} (he : h1 e = none) : isN h B e := by
  refine ⟨fun q c e1 e2 z => ?_, fun i hi z => ?_⟩
  · have := p q c e1 e2
    rw [z, he] at this
    cases this
  · obtain ⟨c, hc⟩ := hM.live hi
    rw [z, he] at hc
    cases hc
def fo (f : Nat → Int32) (d : Int64) : Nat → Int64
  | 0 => d
  | i + 1 => mx (fo f d i) (f i)
def is_D (B : Nat → Nat) (σ : Sg) (u : Mu) (h : Hp) (X : Int64) : Option Value → Hp → Prop := fun v h' => v = some (.long X) ∧ ∃ md' hs', MO h' B σ 0 u md' hs' ∧ kpN h h' B
set_option maxHeartbeats 8000000 in
/-- the lines of tablet t -/
theorem dg_L (hG : GOk G) (hF : Ok G F yX4_digest.cls cX4_digest 10 (some .long)) (hRm : fR F = { frames := 8, cells := 17, slots := 66, locals := 160 }) (hR : RM σ u) {t : Nat} (ht : t < gT σ) {Po : Option Value → Hp → Prop} {kc ks : Nat} {d0 : Int64} {h1 : Hp} (hM : MO h1 B σ 0 u md hs)
    (kk : ∀ z6, V G F (fin G F Po pxN) kc ks 285 [some (.ref (B 0)), none, some (.long (mTL σ t d0 (gn σ t))), none, some (.int (nI (t + 1))), none, z6, none, none, none] [] h1) :
    ∀ l, l ≤ gn σ t → V G F (fin G F Po pxN) kc ks 380 [some (.ref (B 0)), none, some (.long (mTL σ t d0 l)), none, some (.int (nI t)), none, some (.int (nI l)), none, none, none] [] h1 := by
  obtain ⟨t8, em, en⟩ := hR.mn ht
  refine lp_up (gn σ t) fun l hl ih => ?_
  refine V.run hF [(.iload 6, 2, .null), (.aload_n 0, 1, .null)] (pc' := 383) (L' := [some (.ref (B 0)), none, some (.long (mTL σ t d0 l)), none, some (.int (nI t)), none, some (.int (nI l)), none, none, none]) (st' := [.ref (B 0), .int (nI l)]) (by decide +kernel) rfl ?_
  refine V.getf hG hF k_RX4_21 (by decide +kernel) hM.2.1 rfl ?_
  refine V.run hF [(.iload 4, 2, .null)] (pc' := 388) (L' := [some (.ref (B 0)), none, some (.long (mTL σ t d0 l)), none, some (.int (nI t)), none, some (.int (nI l)), none, none, none]) (st' := [.int (nI t), .ref (B 3), .int (nI l)]) (by decide +kernel) rfl ?_
  refine V.ialdN (j := t) hG hF (by decide +kernel) hM.2.2.2.2.1 (by omega) (by decide) ?_
  rw [em]
  refine V.icmpN_ge (i := l) (j := gn σ t) hF (off := 89) (tgt := 478) (by decide +kernel) (by decide) (by omega) (by omega) (fun c1 => ?_) (fun c1 => ?_)
  · have e : l = gn σ t := by omega
    rw [e]
    refine V.run hF [(.iinc 4 1, 3, .int 1), (.goto (-196), 3, .null)] (pc' := 285) (L' := [some (.ref (B 0)), none, some (.long (mTL σ t d0 (gn σ t))), none, some (.int ((nI t) + 1)), none, some (.int (nI (gn σ t))), none, none, none]) (st' := []) (by decide +kernel) rfl ?_
    rw [nI_1 t]
    exact kk _
  · skip
    have c1 : l < gn σ t := by omega
    obtain ⟨-, -, -, -, -, -, -, -, rW, -⟩ := hR.row ht c1
    obtain ⟨p, hp8, ep⟩ := inP_of rW
    have epc : (gW σ t l).toNatClampNeg = p := by rw [ep]; exact nI_clamp (by omega)
    have ew : tf (¬ tf (prs σ (gW σ t l)) = 0) = tf (¬ gth σ p = 0) := tf_iff ⟨fun z => by have := (tf_1 z).2; rw [epc] at this; exact this, fun z q => tf_0 q ⟨rW, by rw [epc]; exact z⟩⟩
    refine V.run hF [(.lload_n 2, 1, .null)] (pc' := 393) (L' := [some (.ref (B 0)), none, some (.long (mTL σ t d0 l)), none, some (.int (nI t)), none, some (.int (nI l)), none, none, none]) (st' := [.long (mTL σ t d0 l)]) (by decide +kernel) rfl ?_
    refine V.ldc2 hG hF tw_905 (by decide +kernel) ?_
    refine V.run hF [(.lmul, 1, .null), (.aload_n 0, 1, .null), (.iload 4, 2, .null), (.iload 6, 2, .null), (.iconst 0, 1, .int 0)] (pc' := 403) (L' := [some (.ref (B 0)), none, some (.long (mTL σ t d0 l)), none, some (.int (nI t)), none, some (.int (nI l)), none, none, none]) (st' := [.int 0, .int (nI l), .int (nI t), .ref (B 0), .long (mTL σ t d0 l * 31)]) (by decide +kernel) rfl ?_
    refine V.callV (As := [.int (nI t), .int (nI l), .int 0]) (st := [.long (mTL σ t d0 l * 31)]) hG hF k_RX4_60 (by decide +kernel) (c_X4_ofD hG hM hR ht c1) hM.2.1 rfl rfl ⟨by rw [hRm]; decide, by rw [hRm]; decide⟩ (Nat.le_of_ble_eq_true rfl) rfl (fun v h_1 gp1 => ?_) (fun E h9 hx => hx.elim)
    obtain ⟨rfl, he_gp1⟩ := gp1
    rw [he_gp1]
    show V G F _ _ _ 406 [some (.ref (B 0)), none, some (.long (mTL σ t d0 l)), none, some (.int (nI t)), none, some (.int (nI l)), none, none, none] [.int (gDD σ t l), .long (mTL σ t d0 l * 31)] h1
    refine V.run hF [(.i2l, 1, .null), (.ladd, 1, .null), (.lstore_n 2, 1, .null)] (pc' := 409) (L' := [some (.ref (B 0)), none, some (.long ((mTL σ t d0 l * 31) + Int32.toInt64 (gDD σ t l))), none, some (.int (nI t)), none, some (.int (nI l)), none, none, none]) (st' := []) (by decide +kernel) rfl ?_
    obtain ⟨f1, hf1⟩ : ∃ y : Int64, y = (mTL σ t d0 l * 31) + Int32.toInt64 (gDD σ t l) := ⟨_, rfl⟩
    rw [← hf1]
    refine V.run hF [(.lload_n 2, 1, .null)] (pc' := 410) (L' := [some (.ref (B 0)), none, some (.long f1), none, some (.int (nI t)), none, some (.int (nI l)), none, none, none]) (st' := [.long f1]) (by decide +kernel) rfl ?_
    refine V.ldc2 hG hF tw_905 (by decide +kernel) ?_
    refine V.run hF [(.lmul, 1, .null), (.aload_n 0, 1, .null), (.iload 4, 2, .null), (.iload 6, 2, .null), (.iconst 1, 1, .int 1)] (pc' := 420) (L' := [some (.ref (B 0)), none, some (.long f1), none, some (.int (nI t)), none, some (.int (nI l)), none, none, none]) (st' := [.int 1, .int (nI l), .int (nI t), .ref (B 0), .long (f1 * 31)]) (by decide +kernel) rfl ?_
    refine V.callV (As := [.int (nI t), .int (nI l), .int 1]) (st := [.long (f1 * 31)]) hG hF k_RX4_60 (by decide +kernel) (c_X4_ofC hG hM hR ht c1) hM.2.1 rfl rfl ⟨by rw [hRm]; decide, by rw [hRm]; decide⟩ (Nat.le_of_ble_eq_true rfl) rfl (fun v h_2 gp2 => ?_) (fun E h9 hx => hx.elim)
    obtain ⟨rfl, he_gp2⟩ := gp2
    rw [he_gp2]
    show V G F _ _ _ 423 [some (.ref (B 0)), none, some (.long f1), none, some (.int (nI t)), none, some (.int (nI l)), none, none, none] [.int (gC σ t l), .long (f1 * 31)] h1
    refine V.run hF [(.i2l, 1, .null), (.ladd, 1, .null), (.lstore_n 2, 1, .null)] (pc' := 426) (L' := [some (.ref (B 0)), none, some (.long ((f1 * 31) + Int32.toInt64 (gC σ t l))), none, some (.int (nI t)), none, some (.int (nI l)), none, none, none]) (st' := []) (by decide +kernel) rfl ?_
    obtain ⟨f2, hf2⟩ : ∃ y : Int64, y = (f1 * 31) + Int32.toInt64 (gC σ t l) := ⟨_, rfl⟩
    rw [← hf2]
    refine V.run hF [(.lload_n 2, 1, .null)] (pc' := 427) (L' := [some (.ref (B 0)), none, some (.long f2), none, some (.int (nI t)), none, some (.int (nI l)), none, none, none]) (st' := [.long f2]) (by decide +kernel) rfl ?_
    refine V.ldc2 hG hF tw_905 (by decide +kernel) ?_
    refine V.run hF [(.lmul, 1, .null), (.aload_n 0, 1, .null), (.iload 4, 2, .null), (.iload 6, 2, .null), (.iconst 2, 1, .int 2)] (pc' := 437) (L' := [some (.ref (B 0)), none, some (.long f2), none, some (.int (nI t)), none, some (.int (nI l)), none, none, none]) (st' := [.int 2, .int (nI l), .int (nI t), .ref (B 0), .long (f2 * 31)]) (by decide +kernel) rfl ?_
    refine V.callV (As := [.int (nI t), .int (nI l), .int 2]) (st := [.long (f2 * 31)]) hG hF k_RX4_60 (by decide +kernel) (c_X4_ofM hG hM hR ht c1) hM.2.1 rfl rfl ⟨by rw [hRm]; decide, by rw [hRm]; decide⟩ (Nat.le_of_ble_eq_true rfl) rfl (fun v h_3 gp3 => ?_) (fun E h9 hx => hx.elim)
    obtain ⟨rfl, he_gp3⟩ := gp3
    rw [he_gp3]
    show V G F _ _ _ 440 [some (.ref (B 0)), none, some (.long f2), none, some (.int (nI t)), none, some (.int (nI l)), none, none, none] [.int (gM σ t l), .long (f2 * 31)] h1
    refine V.run hF [(.i2l, 1, .null), (.ladd, 1, .null), (.lstore_n 2, 1, .null)] (pc' := 443) (L' := [some (.ref (B 0)), none, some (.long ((f2 * 31) + Int32.toInt64 (gM σ t l))), none, some (.int (nI t)), none, some (.int (nI l)), none, none, none]) (st' := []) (by decide +kernel) rfl ?_
    obtain ⟨f3, hf3⟩ : ∃ y : Int64, y = (f2 * 31) + Int32.toInt64 (gM σ t l) := ⟨_, rfl⟩
    rw [← hf3]
    refine V.run hF [(.lload_n 2, 1, .null)] (pc' := 444) (L' := [some (.ref (B 0)), none, some (.long f3), none, some (.int (nI t)), none, some (.int (nI l)), none, none, none]) (st' := [.long f3]) (by decide +kernel) rfl ?_
    refine V.ldc2 hG hF tw_905 (by decide +kernel) ?_
    refine V.run hF [(.lmul, 1, .null), (.aload_n 0, 1, .null), (.aload_n 0, 1, .null), (.iload 4, 2, .null), (.iload 6, 2, .null), (.iconst 3, 1, .int 3)] (pc' := 455) (L' := [some (.ref (B 0)), none, some (.long f3), none, some (.int (nI t)), none, some (.int (nI l)), none, none, none]) (st' := [.int 3, .int (nI l), .int (nI t), .ref (B 0), .ref (B 0), .long (f3 * 31)]) (by decide +kernel) rfl ?_
    refine V.callV (As := [.int (nI t), .int (nI l), .int 3]) (st := [.ref (B 0), .long (f3 * 31)]) hG hF k_RX4_60 (by decide +kernel) (c_X4_ofW hG hM hR ht c1) hM.2.1 rfl rfl ⟨by rw [hRm]; decide, by rw [hRm]; decide⟩ (Nat.le_of_ble_eq_true rfl) rfl (fun v h_4 gp4 => ?_) (fun E h9 hx => hx.elim)
    obtain ⟨rfl, he_gp4⟩ := gp4
    rw [he_gp4]
    show V G F _ _ _ 458 [some (.ref (B 0)), none, some (.long f3), none, some (.int (nI t)), none, some (.int (nI l)), none, none, none] [.int (gW σ t l), .ref (B 0), .long (f3 * 31)] h1
    rw [ep]
    refine V.callV (As := [.int (nI p)]) (st := [.long (f3 * 31)]) hG hF k_RX4_64 (by decide +kernel) (c_X4_is hG hM hR hp8) hM.2.1 rfl rfl ⟨by rw [hRm]; decide, by rw [hRm]; decide⟩ (Nat.le_of_ble_eq_true rfl) rfl (fun v h_5 gp5 => ?_) (fun E h9 hx => hx.elim)
    obtain ⟨rfl, he_gp5⟩ := gp5
    rw [he_gp5]
    show V G F _ _ _ 461 [some (.ref (B 0)), none, some (.long f3), none, some (.int (nI t)), none, some (.int (nI l)), none, none, none] [.int (gth σ p), .long (f3 * 31)] h1
    have fin4 : ∀ f4, f4 = mx f3 (tf (¬ gth σ p = 0)) → f4 = mTL σ t d0 (l + 1) := fun f4 e => by rw [e, hf3, hf2, hf1, mTL, ew]
    refine V.if_eq hF (off := 7) (tgt := 468) (by decide +kernel) (by decide) (fun c3 => ?_) (fun c3 => ?_)
    · skip
      refine V.run hF [(.iconst 0, 1, .int 0), (.i2l, 1, .null), (.ladd, 1, .null), (.lstore_n 2, 1, .null)] (pc' := 472) (L' := [some (.ref (B 0)), none, some (.long ((f3 * 31) + Int32.toInt64 0)), none, some (.int (nI t)), none, some (.int (nI l)), none, none, none]) (st' := []) (by decide +kernel) rfl ?_
      obtain ⟨f4, hf4⟩ : ∃ y : Int64, y = (f3 * 31) + Int32.toInt64 0 := ⟨_, rfl⟩
      rw [← hf4]
      have e4 := fin4 f4 (by rw [hf4, tf, if_neg (fun q => q c3)])
      rw [e4]
      refine V.run hF [(.iinc 6 1, 3, .int 1), (.goto (-95), 3, .null)] (pc' := 380) (L' := [some (.ref (B 0)), none, some (.long (mTL σ t d0 (l + 1))), none, some (.int (nI t)), none, some (.int ((nI l) + 1)), none, none, none]) (st' := []) (by decide +kernel) rfl ?_
      rw [nI_1 l]
      exact ih c1
    · skip
      refine V.run hF [(.iconst 1, 1, .int 1), (.goto 4, 3, .null), (.i2l, 1, .null), (.ladd, 1, .null), (.lstore_n 2, 1, .null)] (pc' := 472) (L' := [some (.ref (B 0)), none, some (.long ((f3 * 31) + Int32.toInt64 1)), none, some (.int (nI t)), none, some (.int (nI l)), none, none, none]) (st' := []) (by decide +kernel) rfl ?_
      obtain ⟨f4, hf4⟩ : ∃ y : Int64, y = (f3 * 31) + Int32.toInt64 1 := ⟨_, rfl⟩
      rw [← hf4]
      have e4 := fin4 f4 (by rw [hf4, tf, if_pos c3])
      rw [e4]
      refine V.run hF [(.iinc 6 1, 3, .int 1), (.goto (-95), 3, .null)] (pc' := 380) (L' := [some (.ref (B 0)), none, some (.long (mTL σ t d0 (l + 1))), none, some (.int (nI t)), none, some (.int ((nI l) + 1)), none, none, none]) (st' := []) (by decide +kernel) rfl ?_
      rw [nI_1 l]
      exact ih c1
def lsub : List (Option Value) → List (Option Value) → Prop
  | none :: a, _ :: b => lsub a b
  | some v :: a, y :: b => y = some v ∧ lsub a b
  | [], _ => True
  | _ :: _, [] => False
theorem lsub_ok : ∀ (a b : List (Option Value)), lsub a b → ∀ (i : Nat) (v : Value), a[i]? = some (some v) → b[i]? = some (some v)
  | [], _, _, i, v, h => by simp at h
  | none :: _, [], q, _, _, _ => False.elim q
  | some _ :: _, [], q, _, _, _ => False.elim q
  | none :: a, _ :: b, q, 0, v, h => by simp at h
  | none :: a, _ :: b, q, i + 1, v, h => lsub_ok a b q i v h
  | some w :: a, y :: b, q, 0, v, h => by
    have h : some (some w) = some (some v) := h
    show some y = some (some v)
    rw [q.1]
    exact h
  | some w :: a, y :: b, q, i + 1, v, h => lsub_ok a b q.2 i v h
theorem V.lo {Q : State → Prop} {kc ks pc : Nat} {L L' : List (Option Value)} {st : List Value} (hs : lsub L' L) (k : V G F Q kc ks pc L' st h) : V G F Q kc ks pc L st h := V.loc (lsub_ok L' L hs) k
set_option maxHeartbeats 4000000 in
theorem dg_F1 (hG : GOk G) (hF : Ok G F yX4_digest.cls cX4_digest 10 (some .long)) {Q : State → Prop} {kc ks e : Nat} {f : Nat → Int32} {d d' : Int64} (he : h e = some (.inl (0, 10, .inl f))) (ed : fo f d 10 = d')
    (kk : V G F Q kc ks 138 [some (.ref (B 0)), none, some (.long (d')), none, none, none, none, none, none, none] [] h) :
    V G F Q kc ks 108 [some (.ref (B 0)), none, some (.long (d)), none, some (.ref e), some (.int (nI 10)), some (.int (nI 0)), none, none, none] [] h := by
  have loop : ∀ i, i ≤ 10 → ∀ z, V G F Q kc ks 108 [some (.ref (B 0)), none, some (.long (fo f d i)), none, some (.ref e), some (.int (nI 10)), some (.int (nI i)), z, none, none] [] h := by
    refine lp_up 10 fun i hi ih => ?_
    intro z
    refine V.lo (L' := [some (.ref (B 0)), none, some (.long (fo f d i)), none, some (.ref e), some (.int (nI 10)), some (.int (nI i)), none, none, none]) (by simp [lsub]) ?_
    refine V.run hF [(.iload 6, 2, .null), (.iload 5, 2, .null)] (pc' := 112) (L' := [some (.ref (B 0)), none, some (.long (fo f d i)), none, some (.ref e), some (.int (nI 10)), some (.int (nI i)), none, none, none]) (st' := [.int (nI 10), .int (nI i)]) (by decide +kernel) rfl ?_
    refine V.icmpN_ge (i := i) (j := 10) hF (off := 26) (tgt := 138) (by decide +kernel) (by decide) (by omega) (by omega) (fun c1 => ?_) (fun c1 => ?_)
    · have e2 : i = 10 := by omega
      subst e2
      rw [ed]
      exact V.lo (L' := [some (.ref (B 0)), none, some (.long (d')), none, none, none, none, none, none, none]) (by simp [lsub]) kk
    · skip
      refine V.run hF [(.aload 4, 2, .null), (.iload 6, 2, .null)] (pc' := 119) (L' := [some (.ref (B 0)), none, some (.long (fo f d i)), none, some (.ref e), some (.int (nI 10)), some (.int (nI i)), none, none, none]) (st' := [.int (nI i), .ref e]) (by decide +kernel) rfl ?_
      refine V.ialdN (j := i) hG hF (by decide +kernel) he (by omega) (by decide) ?_
      refine V.run hF [(.istore 7, 2, .null), (.lload_n 2, 1, .null)] (pc' := 123) (L' := [some (.ref (B 0)), none, some (.long (fo f d i)), none, some (.ref e), some (.int (nI 10)), some (.int (nI i)), some (.int (f i)), none, none]) (st' := [.long (fo f d i)]) (by decide +kernel) rfl ?_
      refine V.ldc2 hG hF tw_905 (by decide +kernel) ?_
      refine V.run hF [(.lmul, 1, .null), (.iload 7, 2, .null), (.i2l, 1, .null), (.ladd, 1, .null), (.lstore_n 2, 1, .null), (.iinc 6 1, 3, .int 1), (.goto (-27), 3, .null)] (pc' := 108) (L' := [some (.ref (B 0)), none, some (.long ((fo f d i * 31) + Int32.toInt64 (f i))), none, some (.ref e), some (.int (nI 10)), some (.int ((nI i) + 1)), some (.int (f i)), none, none]) (st' := []) (by decide +kernel) rfl ?_
      rw [nI_1 i]
      exact ih c1 _
  exact loop 0 (Nat.zero_le _) none
set_option maxHeartbeats 4000000 in
theorem dg_F2 (hG : GOk G) (hF : Ok G F yX4_digest.cls cX4_digest 10 (some .long)) {Q : State → Prop} {kc ks e : Nat} {f : Nat → Int32} {d d' : Int64} {t : Nat} (he : h e = some (.inl (0, 4, .inl f))) (ed : fo f d 4 = d')
    (kk : V G F Q kc ks 244 [some (.ref (B 0)), none, some (.long (d')), none, some (.int (nI t)), none, none, none, none, none] [] h) :
    V G F Q kc ks 214 [some (.ref (B 0)), none, some (.long (d)), none, some (.int (nI t)), some (.ref e), some (.ref e), some (.int (nI 4)), some (.int (nI 0)), none] [] h := by
  have loop : ∀ i, i ≤ 4 → ∀ z, V G F Q kc ks 214 [some (.ref (B 0)), none, some (.long (fo f d i)), none, some (.int (nI t)), some (.ref e), some (.ref e), some (.int (nI 4)), some (.int (nI i)), z] [] h := by
    refine lp_up 4 fun i hi ih => ?_
    intro z
    refine V.lo (L' := [some (.ref (B 0)), none, some (.long (fo f d i)), none, some (.int (nI t)), some (.ref e), some (.ref e), some (.int (nI 4)), some (.int (nI i)), none]) (by simp [lsub]) ?_
    refine V.run hF [(.iload 8, 2, .null), (.iload 7, 2, .null)] (pc' := 218) (L' := [some (.ref (B 0)), none, some (.long (fo f d i)), none, some (.int (nI t)), some (.ref e), some (.ref e), some (.int (nI 4)), some (.int (nI i)), none]) (st' := [.int (nI 4), .int (nI i)]) (by decide +kernel) rfl ?_
    refine V.icmpN_ge (i := i) (j := 4) hF (off := 26) (tgt := 244) (by decide +kernel) (by decide) (by omega) (by omega) (fun c1 => ?_) (fun c1 => ?_)
    · have e2 : i = 4 := by omega
      subst e2
      rw [ed]
      exact V.lo (L' := [some (.ref (B 0)), none, some (.long (d')), none, some (.int (nI t)), none, none, none, none, none]) (by simp [lsub]) kk
    · skip
      refine V.run hF [(.aload 6, 2, .null), (.iload 8, 2, .null)] (pc' := 225) (L' := [some (.ref (B 0)), none, some (.long (fo f d i)), none, some (.int (nI t)), some (.ref e), some (.ref e), some (.int (nI 4)), some (.int (nI i)), none]) (st' := [.int (nI i), .ref e]) (by decide +kernel) rfl ?_
      refine V.ialdN (j := i) hG hF (by decide +kernel) he (by omega) (by decide) ?_
      refine V.run hF [(.istore 9, 2, .null), (.lload_n 2, 1, .null)] (pc' := 229) (L' := [some (.ref (B 0)), none, some (.long (fo f d i)), none, some (.int (nI t)), some (.ref e), some (.ref e), some (.int (nI 4)), some (.int (nI i)), some (.int (f i))]) (st' := [.long (fo f d i)]) (by decide +kernel) rfl ?_
      refine V.ldc2 hG hF tw_905 (by decide +kernel) ?_
      refine V.run hF [(.lmul, 1, .null), (.iload 9, 2, .null), (.i2l, 1, .null), (.ladd, 1, .null), (.lstore_n 2, 1, .null), (.iinc 8 1, 3, .int 1), (.goto (-27), 3, .null)] (pc' := 214) (L' := [some (.ref (B 0)), none, some (.long ((fo f d i * 31) + Int32.toInt64 (f i))), none, some (.int (nI t)), some (.ref e), some (.ref e), some (.int (nI 4)), some (.int ((nI i) + 1)), some (.int (f i))]) (st' := []) (by decide +kernel) rfl ?_
      rw [nI_1 i]
      exact ih c1 _
  exact loop 0 (Nat.zero_le _) none
set_option maxHeartbeats 4000000 in
theorem dg_F3 (hG : GOk G) (hF : Ok G F yX4_digest.cls cX4_digest 10 (some .long)) {Q : State → Prop} {kc ks e : Nat} {f : Nat → Int32} {d d' : Int64} {t : Nat} (he : h e = some (.inl (0, 3, .inl f))) (ed : fo f d 3 = d')
    (kk : V G F Q kc ks 377 [some (.ref (B 0)), none, some (.long (d')), none, some (.int (nI t)), none, none, none, none, none] [] h) :
    V G F Q kc ks 347 [some (.ref (B 0)), none, some (.long (d)), none, some (.int (nI t)), some (.ref e), some (.ref e), some (.int (nI 3)), some (.int (nI 0)), none] [] h := by
  have loop : ∀ i, i ≤ 3 → ∀ z, V G F Q kc ks 347 [some (.ref (B 0)), none, some (.long (fo f d i)), none, some (.int (nI t)), some (.ref e), some (.ref e), some (.int (nI 3)), some (.int (nI i)), z] [] h := by
    refine lp_up 3 fun i hi ih => ?_
    intro z
    refine V.lo (L' := [some (.ref (B 0)), none, some (.long (fo f d i)), none, some (.int (nI t)), some (.ref e), some (.ref e), some (.int (nI 3)), some (.int (nI i)), none]) (by simp [lsub]) ?_
    refine V.run hF [(.iload 8, 2, .null), (.iload 7, 2, .null)] (pc' := 351) (L' := [some (.ref (B 0)), none, some (.long (fo f d i)), none, some (.int (nI t)), some (.ref e), some (.ref e), some (.int (nI 3)), some (.int (nI i)), none]) (st' := [.int (nI 3), .int (nI i)]) (by decide +kernel) rfl ?_
    refine V.icmpN_ge (i := i) (j := 3) hF (off := 26) (tgt := 377) (by decide +kernel) (by decide) (by omega) (by omega) (fun c1 => ?_) (fun c1 => ?_)
    · have e2 : i = 3 := by omega
      subst e2
      rw [ed]
      exact V.lo (L' := [some (.ref (B 0)), none, some (.long (d')), none, some (.int (nI t)), none, none, none, none, none]) (by simp [lsub]) kk
    · skip
      refine V.run hF [(.aload 6, 2, .null), (.iload 8, 2, .null)] (pc' := 358) (L' := [some (.ref (B 0)), none, some (.long (fo f d i)), none, some (.int (nI t)), some (.ref e), some (.ref e), some (.int (nI 3)), some (.int (nI i)), none]) (st' := [.int (nI i), .ref e]) (by decide +kernel) rfl ?_
      refine V.ialdN (j := i) hG hF (by decide +kernel) he (by omega) (by decide) ?_
      refine V.run hF [(.istore 9, 2, .null), (.lload_n 2, 1, .null)] (pc' := 362) (L' := [some (.ref (B 0)), none, some (.long (fo f d i)), none, some (.int (nI t)), some (.ref e), some (.ref e), some (.int (nI 3)), some (.int (nI i)), some (.int (f i))]) (st' := [.long (fo f d i)]) (by decide +kernel) rfl ?_
      refine V.ldc2 hG hF tw_905 (by decide +kernel) ?_
      refine V.run hF [(.lmul, 1, .null), (.iload 9, 2, .null), (.i2l, 1, .null), (.ladd, 1, .null), (.lstore_n 2, 1, .null), (.iinc 8 1, 3, .int 1), (.goto (-27), 3, .null)] (pc' := 347) (L' := [some (.ref (B 0)), none, some (.long ((fo f d i * 31) + Int32.toInt64 (f i))), none, some (.int (nI t)), some (.ref e), some (.ref e), some (.int (nI 3)), some (.int ((nI i) + 1)), some (.int (f i))]) (st' := []) (by decide +kernel) rfl ?_
      rw [nI_1 i]
      exact ih c1 _
  exact loop 0 (Nat.zero_le _) none
theorem fo_3 (f : Nat → Int32) (a0 a1 a2 : Int32) (d : Int64) : fo (upd (upd (upd f 0 a0) 1 a1) 2 a2) d 3 = mx (mx (mx d a0) a1) a2 := rfl
theorem fo_4 (f : Nat → Int32) (a0 a1 a2 a3 : Int32) (d : Int64) : fo (upd (upd (upd (upd f 0 a0) 1 a1) 2 a2) 3 a3) d 4 = mx (mx (mx (mx d a0) a1) a2) a3 := rfl
theorem fo_10 (f : Nat → Int32) (a0 a1 a2 a3 a4 a5 a6 a7 a8 a9 : Int32) (d : Int64) : fo (upd (upd (upd (upd (upd (upd (upd (upd (upd (upd f 0 a0) 1 a1) 2 a2) 3 a3) 4 a4) 5 a5) 6 a6) 7 a7) 8 a8) 9 a9) d 10 = mx (mx (mx (mx (mx (mx (mx (mx (mx (mx d a0) a1) a2) a3) a4) a5) a6) a7) a8) a9 := rfl
set_option maxHeartbeats 8000000 in
/-- the tablets -/
theorem dg_T (hG : GOk G) (hF : Ok G F yX4_digest.cls cX4_digest 10 (some .long)) (hRm : fR F = { frames := 8, cells := 17, slots := 66, locals := 160 }) (hR : RM σ u) (hE : PEA σ) (hy : gy σ < 2 ^ 29) {X dp : Int64} (ed : mTs σ dp (gT σ) = X) :
    ∀ t, t ≤ gT σ → ∀ (h1 : Hp) (md hs : Nat → Int32), MO h1 B σ 0 u md hs → kpN h h1 B → ∀ z5 z6 z7 z8 z9, V G F (fin G F (is_D B σ u h X) pxN) (gT σ - t) (3 * (gT σ - t)) 285 [some (.ref (B 0)), none, some (.long (mTs σ dp t)), none, some (.int (nI t)), z5, z6, z7, z8, z9] [] h1 := by
  refine lp_up (gT σ) fun t ht ih => ?_
  intro h1 md hs hM hk z5 z6 z7 z8 z9
  refine V.lo (L' := [some (.ref (B 0)), none, some (.long (mTs σ dp t)), none, some (.int (nI t)), none, none, none, none, none]) (by simp [lsub]) ?_
  have h8 := hR.1
  refine V.run hF [(.iload 4, 2, .null), (.aload_n 0, 1, .null)] (pc' := 288) (L' := [some (.ref (B 0)), none, some (.long (mTs σ dp t)), none, some (.int (nI t)), none, none, none, none, none]) (st' := [.ref (B 0), .int (nI t)]) (by decide +kernel) rfl ?_
  refine V.getf hG hF k_RX4_43 (by decide +kernel) hM.2.1 rfl ?_
  refine V.icmpN_ge (i := t) (j := gT σ) hF (off := 193) (tgt := 484) (by decide +kernel) (by decide) (by omega) (by omega) (fun c1 => ?_) (fun c1 => ?_)
  · have e2 : t = gT σ := by omega
    refine V.run hF [(.lload_n 2, 1, .null)] (pc' := 485) (L' := [some (.ref (B 0)), none, some (.long (mTs σ dp t)), none, some (.int (nI t)), none, none, none, none, none]) (st' := [.long (mTs σ dp t)]) (by decide +kernel) rfl ?_
    exact V.retl hF (by decide +kernel) ⟨by rw [e2, ed], md, hs, hM, hk⟩
  · skip
    obtain ⟨t8, em, en⟩ := hR.mn c1
    obtain ⟨-, eb, b1, -⟩ := hR.2.2.2.1 t c1
    obtain ⟨k1, ek1⟩ : ∃ k, k = gT σ - (t + 1) := ⟨_, rfl⟩
    obtain ⟨s1, es1⟩ : ∃ k, k = 3 * (gT σ - (t + 1)) := ⟨_, rfl⟩
    refine V.less (kc' := k1 + 1) (ks' := s1 + 3) (by omega) (by omega) ?_
    refine V.run hF [(.iconst 3, 1, .int 3)] (pc' := 295) (L' := [some (.ref (B 0)), none, some (.long (mTs σ dp t)), none, some (.int (nI t)), none, none, none, none, none]) (st' := [.int 3]) (by decide +kernel) rfl ?_
    refine V.newa (aty := .int) (t := 0) (N := 3) (a0 := (3, .inl (fun _ => 0))) hG hF (by decide) rfl tw_arr_0.1 (by decide +kernel) (by decide) (by decide) (by decide) (fun _ => rfl) (fun e hq_e => ?_)
    have ne_B0_e : (B 0) ≠ e := ne_new hM.2.1 hq_e
    have ne_B2_e : (B 2) ≠ e := ne_new hM.2.2.2.1 hq_e
    obtain ⟨h_1, gh1⟩ : ∃ z : Hp, z = hset h1 e (.inl (0, 3, .inl (fun _ => 0))) := ⟨_, rfl⟩
    refine V.hp gh1 ?_
    have gk1 : ∀ q : Nat, q ≠ e → h_1 q = h1 q := fun q hq => by rw [gh1]; exact hset_ne hq
    have gs1 : h_1 e = some (.inl (0, 3, .inl (fun _ => 0))) := by rw [gh1]; exact hset_eq
    have he : ∀ i, i < 8 → B i ≠ e := fun i hi => by
      obtain ⟨c, hc⟩ := hM.live hi
      exact ne_new hc hq_e
    have hn := isN.of hk hM hq_e
    have hM1 := hM.keep he (fun z hz => gk1 z hz)
    have hk1 := hk.st hn (fun z hz => gk1 z hz)
    refine V.run hF [(.dup, 1, .null), (.iconst 0, 1, .int (nI 0)), (.aload_n 0, 1, .null)] (pc' := 300) (L' := [some (.ref (B 0)), none, some (.long (mTs σ dp t)), none, some (.int (nI t)), none, none, none, none, none]) (st' := [.ref (B 0), .int (nI 0), .ref e, .ref e]) (by decide +kernel) rfl ?_
    have gf2 : h_1 (B 0) = some (.inr (4, [.int 0, .int (uth u), .int (nI (gT σ)), .ref (B 1), .ref (B 2), .ref (B 3), .ref (B 4), .ref (B 5), .int (nI (gy σ)), .int (gme σ), .int (gde σ), .ref (B 6), .ref (B 7)])) := (gk1 (B 0) (by first | assumption | exact Ne.symm (by assumption) | omega)).trans hM.2.1
    refine V.getf hG hF k_RX4_17 (by decide +kernel) gf2 rfl ?_
    refine V.run hF [(.iload 4, 2, .null)] (pc' := 305) (L' := [some (.ref (B 0)), none, some (.long (mTs σ dp t)), none, some (.int (nI t)), none, none, none, none, none]) (st' := [.int (nI t), .ref (B 2), .int (nI 0), .ref e, .ref e]) (by decide +kernel) rfl ?_
    have gf3 : h_1 (B 2) = some (.inl (1, 8, .inl (ubl u))) := (gk1 (B 2) (by first | assumption | exact Ne.symm (by assumption) | omega)).trans hM.2.2.2.1
    refine V.zaldN (j := t) hG hF (by decide +kernel) gf3 (by omega) (by decide) ?_
    rw [eb]
    have rest : ∀ x0, x0 = tf (¬ gce σ t = 0) → V G F (fin G F (is_D B σ u h X) pxN) k1 s1 314 [some (.ref (B 0)), none, some (.long (mTs σ dp t)), none, some (.int (nI t)), none, none, none, none, none] [.int x0, .int (nI 0), .ref e, .ref e] h_1 := by
      intro x0 hx0
      refine V.iastN (j := 0) hG hF (by decide +kernel) gs1 (by omega) (by decide) ?_
      obtain ⟨h_4, gh4⟩ : ∃ z : Hp, z = hset h_1 e (.inl (0, 3, .inl (upd (fun _ => 0) 0 x0))) := ⟨_, rfl⟩
      refine V.hp gh4 ?_
      have gk4 : ∀ q : Nat, q ≠ e → h_4 q = h_1 q := fun q hq => by rw [gh4]; exact hset_ne hq
      have gs4 : h_4 e = some (.inl (0, 3, .inl (upd (fun _ => 0) 0 x0))) := by rw [gh4]; exact hset_eq
      have hM2 := hM1.keep he (fun z hz => gk4 z hz)
      have hk2 := hk1.st hn (fun z hz => gk4 z hz)
      refine V.run hF [(.dup, 1, .null), (.iconst 1, 1, .int (nI 1)), (.aload_n 0, 1, .null), (.iload 4, 2, .null)] (pc' := 320) (L' := [some (.ref (B 0)), none, some (.long (mTs σ dp t)), none, some (.int (nI t)), none, none, none, none, none]) (st' := [.int (nI t), .ref (B 0), .int (nI 1), .ref e, .ref e]) (by decide +kernel) rfl ?_
      have gf5 : h_4 (B 0) = some (.inr (4, [.int 0, .int (uth u), .int (nI (gT σ)), .ref (B 1), .ref (B 2), .ref (B 3), .ref (B 4), .ref (B 5), .int (nI (gy σ)), .int (gme σ), .int (gde σ), .ref (B 6), .ref (B 7)])) := (gk4 (B 0) (by first | assumption | exact Ne.symm (by assumption) | omega)).trans gf2
      refine V.callV (As := [.int (nI t)]) (st := [.int (nI 1), .ref e, .ref e]) hG hF k_RX4_154 (by decide +kernel) (c_X4_until hG hM2 hR (by omega) c1) gf5 rfl rfl ⟨by rw [hRm]; decide, by rw [hRm]; decide⟩ (Nat.le_of_ble_eq_true rfl) rfl (fun v h_6 gp6 => ?_) (fun E h9 hx => hx.elim)
      obtain ⟨rfl, he_gp6⟩ := gp6
      rw [he_gp6]
      show V G F _ _ _ 323 [some (.ref (B 0)), none, some (.long (mTs σ dp t)), none, some (.int (nI t)), none, none, none, none, none] [.int (ytm σ t 10 0), .int (nI 1), .ref e, .ref e] h_4
      refine V.iastN (j := 1) hG hF (by decide +kernel) gs4 (by omega) (by decide) ?_
      obtain ⟨h_7, gh7⟩ : ∃ z : Hp, z = hset h_4 e (.inl (0, 3, .inl (upd (upd (fun _ => 0) 0 x0) 1 (ytm σ t 10 0)))) := ⟨_, rfl⟩
      refine V.hp gh7 ?_
      have gk7 : ∀ q : Nat, q ≠ e → h_7 q = h_4 q := fun q hq => by rw [gh7]; exact hset_ne hq
      have gs7 : h_7 e = some (.inl (0, 3, .inl (upd (upd (fun _ => 0) 0 x0) 1 (ytm σ t 10 0)))) := by rw [gh7]; exact hset_eq
      have hM3 := hM2.keep he (fun z hz => gk7 z hz)
      have hk3 := hk2.st hn (fun z hz => gk7 z hz)
      refine V.run hF [(.dup, 1, .null), (.iconst 2, 1, .int (nI 2)), (.aload_n 0, 1, .null), (.iload 4, 2, .null)] (pc' := 329) (L' := [some (.ref (B 0)), none, some (.long (mTs σ dp t)), none, some (.int (nI t)), none, none, none, none, none]) (st' := [.int (nI t), .ref (B 0), .int (nI 2), .ref e, .ref e]) (by decide +kernel) rfl ?_
      have gf8 : h_7 (B 0) = some (.inr (4, [.int 0, .int (uth u), .int (nI (gT σ)), .ref (B 1), .ref (B 2), .ref (B 3), .ref (B 4), .ref (B 5), .int (nI (gy σ)), .int (gme σ), .int (gde σ), .ref (B 6), .ref (B 7)])) := (gk7 (B 0) (by first | assumption | exact Ne.symm (by assumption) | omega)).trans gf5
      refine V.callV (As := [.int (nI t)]) (st := [.int (nI 2), .ref e, .ref e]) hG hF k_RX4_104 (by decide +kernel) (c_X4_smL hG hM3 hR c1 hE) gf8 rfl rfl ⟨by rw [hRm]; decide, by rw [hRm]; decide⟩ (Nat.le_of_ble_eq_true rfl) rfl (fun v2 h2 hp => ?_) (fun E h9 hx => hx.elim)
      obtain ⟨rfl, md2, hs2, hM4, hb4⟩ := hp
      have hk4 := hk3.kB hb4
      have ce4 : h2 e = some (.inl (0, 3, .inl (upd (upd (fun _ => 0) 0 x0) 1 (ytm σ t 10 0)))) := (hb4 e (fun i hi q => he i hi q.symm)).trans gs7
      have ne_B0_e : B 0 ≠ e := he 0 (by omega)
      show V G F _ _ _ 332 [some (.ref (B 0)), none, some (.long (mTs σ dp t)), none, some (.int (nI t)), none, none, none, none, none] [.int (lf σ t), .int (nI 2), .ref e, .ref e] h2
      refine V.iastN (j := 2) hG hF (by decide +kernel) ce4 (by omega) (by decide) ?_
      obtain ⟨h_10, gh10⟩ : ∃ z : Hp, z = hset h2 e (.inl (0, 3, .inl (upd (upd (upd (fun _ => 0) 0 x0) 1 (ytm σ t 10 0)) 2 (lf σ t)))) := ⟨_, rfl⟩
      refine V.hp gh10 ?_
      have gk10 : ∀ q : Nat, q ≠ e → h_10 q = h2 q := fun q hq => by rw [gh10]; exact hset_ne hq
      have gs10 : h_10 e = some (.inl (0, 3, .inl (upd (upd (upd (fun _ => 0) 0 x0) 1 (ytm σ t 10 0)) 2 (lf σ t)))) := by rw [gh10]; exact hset_eq
      have hM5 := hM4.keep he (fun z hz => gk10 z hz)
      have hk5 := hk4.st hn (fun z hz => gk10 z hz)
      refine V.run hF [(.astore 5, 2, .null), (.aload 5, 2, .null), (.astore 6, 2, .null), (.aload 6, 2, .null)] (pc' := 341) (L' := [some (.ref (B 0)), none, some (.long (mTs σ dp t)), none, some (.int (nI t)), some (.ref e), some (.ref e), none, none, none]) (st' := [.ref e]) (by decide +kernel) rfl ?_
      refine V.alen hG hF (by decide +kernel) (by decide) gs10 ?_
      show V G F _ _ _ 342 [some (.ref (B 0)), none, some (.long (mTs σ dp t)), none, some (.int (nI t)), some (.ref e), some (.ref e), none, none, none] [.int (nI 3)] h_10
      refine V.run hF [(.istore 7, 2, .null), (.iconst 0, 1, .int (nI 0)), (.istore 8, 2, .null)] (pc' := 347) (L' := [some (.ref (B 0)), none, some (.long (mTs σ dp t)), none, some (.int (nI t)), some (.ref e), some (.ref e), some (.int (nI 3)), some (.int (nI 0)), none]) (st' := []) (by decide +kernel) rfl ?_
      refine dg_F3 hG hF (d' := mx (mx (mx (mTs σ dp t) (tf (¬ gce σ t = 0))) (ytm σ t 10 0)) (lf σ t)) gs10 (by rw [fo_3, hx0]) ?_
      refine V.run hF [(.iconst 0, 1, .int (nI 0)), (.istore 6, 2, .null)] (pc' := 380) (L' := [some (.ref (B 0)), none, some (.long (mx (mx (mx (mTs σ dp t) (tf (¬ gce σ t = 0))) (ytm σ t 10 0)) (lf σ t))), none, some (.int (nI t)), none, some (.int (nI 0)), none, none, none]) (st' := []) (by decide +kernel) rfl ?_
      rw [ek1, es1]
      exact dg_L hG hF hRm hR c1 hM5 (fun z6 => ih c1 _ _ _ hM5 hk5 none z6 none none none) 0 (Nat.zero_le _)
    refine V.if_eq hF (off := 7) (tgt := 313) (by decide +kernel) (by decide) (fun c3 => ?_) (fun c3 => ?_)
    · skip
      refine V.run hF [(.iconst 0, 1, .int 0)] (pc' := 314) (L' := [some (.ref (B 0)), none, some (.long (mTs σ dp t)), none, some (.int (nI t)), none, none, none, none, none]) (st' := [.int 0, .int (nI 0), .ref e, .ref e]) (by decide +kernel) rfl ?_
      exact rest _ (by rw [tf, if_neg (fun q => q c3)])
    · skip
      refine V.run hF [(.iconst 1, 1, .int 1), (.goto 4, 3, .null)] (pc' := 314) (L' := [some (.ref (B 0)), none, some (.long (mTs σ dp t)), none, some (.int (nI t)), none, none, none, none, none]) (st' := [.int 1, .int (nI 0), .ref e, .ref e]) (by decide +kernel) rfl ?_
      exact rest _ (by rw [tf, if_pos c3])
set_option maxHeartbeats 8000000 in
/-- what person p owes each -/
theorem dg_O (hG : GOk G) (hF : Ok G F yX4_digest.cls cX4_digest 10 (some .long)) (hRm : fR F = { frames := 8, cells := 17, slots := 66, locals := 160 }) (hR : RM σ u) {Q : State → Prop} {kc ks p : Nat} {d0 : Int64} {h1 : Hp} (hM : MO h1 B σ 0 u md hs)
    (kk : ∀ z6, V G F Q kc ks 141 [some (.ref (B 0)), none, some (.long (mPO σ p d0 8)), none, some (.int (nI (p + 1))), none, z6, none, none, none] [] h1) :
    ∀ q, q ≤ 8 → V G F Q kc ks 247 [some (.ref (B 0)), none, some (.long (mPO σ p d0 q)), none, some (.int (nI p)), none, some (.int (nI q)), none, none, none] [] h1 := by
  refine lp_up 8 fun q hq ih => ?_
  refine V.run hF [(.iload 6, 2, .null), (.bipush 8, 2, .int (nI 8))] (pc' := 251) (L' := [some (.ref (B 0)), none, some (.long (mPO σ p d0 q)), none, some (.int (nI p)), none, some (.int (nI q)), none, none, none]) (st' := [.int (nI 8), .int (nI q)]) (by decide +kernel) rfl ?_
  refine V.icmpN_ge (i := q) (j := 8) hF (off := 25) (tgt := 276) (by decide +kernel) (by decide) (by omega) (by omega) (fun c1 => ?_) (fun c1 => ?_)
  · have e : q = 8 := by omega
    rw [e]
    refine V.run hF [(.iinc 4 1, 3, .int 1), (.goto (-138), 3, .null)] (pc' := 141) (L' := [some (.ref (B 0)), none, some (.long (mPO σ p d0 8)), none, some (.int ((nI p) + 1)), none, some (.int (nI 8)), none, none, none]) (st' := []) (by decide +kernel) rfl ?_
    rw [nI_1 p]
    exact kk _
  · skip
    refine V.run hF [(.lload_n 2, 1, .null)] (pc' := 255) (L' := [some (.ref (B 0)), none, some (.long (mPO σ p d0 q)), none, some (.int (nI p)), none, some (.int (nI q)), none, none, none]) (st' := [.long (mPO σ p d0 q)]) (by decide +kernel) rfl ?_
    refine V.ldc2 hG hF tw_905 (by decide +kernel) ?_
    refine V.run hF [(.lmul, 1, .null), (.aload_n 0, 1, .null), (.iload 4, 2, .null), (.iload 6, 2, .null)] (pc' := 264) (L' := [some (.ref (B 0)), none, some (.long (mPO σ p d0 q)), none, some (.int (nI p)), none, some (.int (nI q)), none, none, none]) (st' := [.int (nI q), .int (nI p), .ref (B 0), .long (mPO σ p d0 q * 31)]) (by decide +kernel) rfl ?_
    refine V.callV (As := [.int (nI p), .int (nI q)]) (st := [.long (mPO σ p d0 q * 31)]) hG hF k_RX4_129 (by decide +kernel) (c_X4_owing hG hM hR) hM.2.1 rfl rfl ⟨by rw [hRm]; decide, by rw [hRm]; decide⟩ (Nat.le_of_ble_eq_true rfl) rfl (fun v h_1 gp1 => ?_) (fun E h9 hx => hx.elim)
    obtain ⟨rfl, he_gp1⟩ := gp1
    rw [he_gp1]
    show V G F _ _ _ 267 [some (.ref (B 0)), none, some (.long (mPO σ p d0 q)), none, some (.int (nI p)), none, some (.int (nI q)), none, none, none] [.int (gOw σ (nI p) (nI q) (gT σ)), .long (mPO σ p d0 q * 31)] h1
    refine V.run hF [(.i2l, 1, .null), (.ladd, 1, .null), (.lstore_n 2, 1, .null), (.iinc 6 1, 3, .int 1), (.goto (-26), 3, .null)] (pc' := 247) (L' := [some (.ref (B 0)), none, some (.long ((mPO σ p d0 q * 31) + Int32.toInt64 (gOw σ (nI p) (nI q) (gT σ)))), none, some (.int (nI p)), none, some (.int ((nI q) + 1)), none, none, none]) (st' := []) (by decide +kernel) rfl ?_
    rw [nI_1 q]
    exact ih c1
set_option maxHeartbeats 8000000 in
/-- the persons -/
theorem dg_P (hG : GOk G) (hF : Ok G F yX4_digest.cls cX4_digest 10 (some .long)) (hRm : fR F = { frames := 8, cells := 17, slots := 66, locals := 160 }) (hR : RM σ u) (hE : PEA σ) (hK : RST σ) (hO : ∀ p, p < 8 → alB σ p = gOA σ (nI p)) (hy : gy σ < 2 ^ 29) {X dp : Int64} (ed : mTs σ (mPs σ dp 8) (gT σ) = X) :
    ∀ p, p ≤ 8 → ∀ (h1 : Hp) (md hs : Nat → Int32), MO h1 B σ 0 u md hs → kpN h h1 B → ∀ z5 z6 z7 z8 z9, V G F (fin G F (is_D B σ u h X) pxN) (gT σ + (8 - p)) (3 * gT σ + 4 * (8 - p)) 141 [some (.ref (B 0)), none, some (.long (mPs σ dp p)), none, some (.int (nI p)), z5, z6, z7, z8, z9] [] h1 := by
  refine lp_up 8 fun p hp8 ih => ?_
  intro h1 md hs hM hk z5 z6 z7 z8 z9
  refine V.lo (L' := [some (.ref (B 0)), none, some (.long (mPs σ dp p)), none, some (.int (nI p)), none, none, none, none, none]) (by simp [lsub]) ?_
  have h8 := hR.1
  refine V.run hF [(.iload 4, 2, .null), (.bipush 8, 2, .int (nI 8))] (pc' := 145) (L' := [some (.ref (B 0)), none, some (.long (mPs σ dp p)), none, some (.int (nI p)), none, none, none, none, none]) (st' := [.int (nI 8), .int (nI p)]) (by decide +kernel) rfl ?_
  refine V.icmpN_ge (i := p) (j := 8) hF (off := 137) (tgt := 282) (by decide +kernel) (by decide) (by omega) (by omega) (fun c1 => ?_) (fun c1 => ?_)
  · have e2 : p = 8 := by omega
    rw [e2]
    refine V.run hF [(.iconst 0, 1, .int (nI 0)), (.istore 4, 2, .null)] (pc' := 285) (L' := [some (.ref (B 0)), none, some (.long (mPs σ dp 8)), none, some (.int (nI 0)), none, none, none, none, none]) (st' := []) (by decide +kernel) rfl ?_
    exact dg_T hG hF hRm hR hE hy ed 0 (Nat.zero_le _) _ _ _ hM hk none none none none none
  · skip
    obtain ⟨k1, ek1⟩ : ∃ k, k = gT σ + (8 - (p + 1)) := ⟨_, rfl⟩
    obtain ⟨s1, es1⟩ : ∃ k, k = 3 * gT σ + 4 * (8 - (p + 1)) := ⟨_, rfl⟩
    refine V.less (kc' := k1 + 1) (ks' := s1 + 4) (by omega) (by omega) ?_
    refine V.run hF [(.aload_n 0, 1, .null)] (pc' := 149) (L' := [some (.ref (B 0)), none, some (.long (mPs σ dp p)), none, some (.int (nI p)), none, none, none, none, none]) (st' := [.ref (B 0)]) (by decide +kernel) rfl ?_
    refine V.less (kc' := k1 + 1 + 0) (ks' := s1 + 4 + 0) (by omega) (by omega) ?_
    refine V.callV (As := []) (st := []) hG hF k_RX4_126 (by decide +kernel) (c_X4_balances hG hM hR) hM.2.1 rfl rfl ⟨by rw [hRm]; decide, by rw [hRm]; decide⟩ (Nat.le_of_ble_eq_true rfl) rfl (fun v2 h2 hp => ?_) (fun E h9 hx => hx.elim)
    obtain ⟨rfl, g, hg, hM0, hb0⟩ := hp
    have hk0 := hk.kB hb0
    show V G F _ _ _ 152 [some (.ref (B 0)), none, some (.long (mPs σ dp p)), none, some (.int (nI p)), none, none, none, none, none] [] h2
    refine V.run hF [(.iconst 4, 1, .int 4)] (pc' := 153) (L' := [some (.ref (B 0)), none, some (.long (mPs σ dp p)), none, some (.int (nI p)), none, none, none, none, none]) (st' := [.int 4]) (by decide +kernel) rfl ?_
    refine V.newa (aty := .int) (t := 0) (N := 4) (a0 := (4, .inl (fun _ => 0))) hG hF (by decide) rfl tw_arr_0.1 (by decide +kernel) (by decide) (by decide) (by decide) (fun _ => rfl) (fun e hq_e => ?_)
    have ne_B0_e : (B 0) ≠ e := ne_new hM0.2.1 hq_e
    have ne_B7_e : (B 7) ≠ e := ne_new hM0.2.2.2.2.2.2.2.2 hq_e
    obtain ⟨h_2, gh2⟩ : ∃ z : Hp, z = hset h2 e (.inl (0, 4, .inl (fun _ => 0))) := ⟨_, rfl⟩
    refine V.hp gh2 ?_
    have gk2 : ∀ q : Nat, q ≠ e → h_2 q = h2 q := fun q hq => by rw [gh2]; exact hset_ne hq
    have gs2 : h_2 e = some (.inl (0, 4, .inl (fun _ => 0))) := by rw [gh2]; exact hset_eq
    have he : ∀ i, i < 8 → B i ≠ e := fun i hi => by
      obtain ⟨c, hc⟩ := hM0.live hi
      exact ne_new hc hq_e
    have hn := isN.of hk0 hM0 hq_e
    have hM1 := hM0.keep he (fun z hz => gk2 z hz)
    have hk1 := hk0.st hn (fun z hz => gk2 z hz)
    refine V.run hF [(.dup, 1, .null), (.iconst 0, 1, .int (nI 0)), (.aload_n 0, 1, .null), (.iload 4, 2, .null)] (pc' := 160) (L' := [some (.ref (B 0)), none, some (.long (mPs σ dp p)), none, some (.int (nI p)), none, none, none, none, none]) (st' := [.int (nI p), .ref (B 0), .int (nI 0), .ref e, .ref e]) (by decide +kernel) rfl ?_
    have gf3 : h_2 (B 0) = some (.inr (4, [.int 0, .int (uth u), .int (nI (gT σ)), .ref (B 1), .ref (B 2), .ref (B 3), .ref (B 4), .ref (B 5), .int (nI (gy σ)), .int (gme σ), .int (gde σ), .ref (B 6), .ref (B 7)])) := (gk2 (B 0) (by first | assumption | exact Ne.symm (by assumption) | omega)).trans hM0.2.1
    refine V.callV (As := [.int (nI p)]) (st := [.int (nI 0), .ref e, .ref e]) hG hF k_RX4_64 (by decide +kernel) (c_X4_is hG hM1 hR c1) gf3 rfl rfl ⟨by rw [hRm]; decide, by rw [hRm]; decide⟩ (Nat.le_of_ble_eq_true rfl) rfl (fun v h_4 gp4 => ?_) (fun E h9 hx => hx.elim)
    obtain ⟨rfl, he_gp4⟩ := gp4
    rw [he_gp4]
    show V G F _ _ _ 163 [some (.ref (B 0)), none, some (.long (mPs σ dp p)), none, some (.int (nI p)), none, none, none, none, none] [.int (gth σ p), .int (nI 0), .ref e, .ref e] h_2
    have rest : ∀ x0, x0 = tf (¬ gth σ p = 0) → V G F (fin G F (is_D B σ u h X) pxN) k1 s1 171 [some (.ref (B 0)), none, some (.long (mPs σ dp p)), none, some (.int (nI p)), none, none, none, none, none] [.int x0, .int (nI 0), .ref e, .ref e] h_2 := by
      intro x0 hx0
      refine V.iastN (j := 0) hG hF (by decide +kernel) gs2 (by omega) (by decide) ?_
      obtain ⟨h_5, gh5⟩ : ∃ z : Hp, z = hset h_2 e (.inl (0, 4, .inl (upd (fun _ => 0) 0 x0))) := ⟨_, rfl⟩
      refine V.hp gh5 ?_
      have gk5 : ∀ q : Nat, q ≠ e → h_5 q = h_2 q := fun q hq => by rw [gh5]; exact hset_ne hq
      have gs5 : h_5 e = some (.inl (0, 4, .inl (upd (fun _ => 0) 0 x0))) := by rw [gh5]; exact hset_eq
      have hM2 := hM1.keep he (fun z hz => gk5 z hz)
      have hk2 := hk1.st hn (fun z hz => gk5 z hz)
      refine V.run hF [(.dup, 1, .null), (.iconst 1, 1, .int (nI 1)), (.aload_n 0, 1, .null)] (pc' := 175) (L' := [some (.ref (B 0)), none, some (.long (mPs σ dp p)), none, some (.int (nI p)), none, none, none, none, none]) (st' := [.ref (B 0), .int (nI 1), .ref e, .ref e]) (by decide +kernel) rfl ?_
      have gf6 : h_5 (B 0) = some (.inr (4, [.int 0, .int (uth u), .int (nI (gT σ)), .ref (B 1), .ref (B 2), .ref (B 3), .ref (B 4), .ref (B 5), .int (nI (gy σ)), .int (gme σ), .int (gde σ), .ref (B 6), .ref (B 7)])) := (gk5 (B 0) (by first | assumption | exact Ne.symm (by assumption) | omega)).trans gf3
      refine V.getf hG hF k_RX4_33 (by decide +kernel) gf6 rfl ?_
      refine V.run hF [(.iload 4, 2, .null)] (pc' := 180) (L' := [some (.ref (B 0)), none, some (.long (mPs σ dp p)), none, some (.int (nI p)), none, none, none, none, none]) (st' := [.int (nI p), .ref (B 7), .int (nI 1), .ref e, .ref e]) (by decide +kernel) rfl ?_
      have gf7 : h_5 (B 7) = some (.inl (0, 8, .inl g)) := (gk5 (B 7) (by first | assumption | exact Ne.symm (by assumption) | omega)).trans ((gk2 (B 7) (by first | assumption | exact Ne.symm (by assumption) | omega)).trans hM0.2.2.2.2.2.2.2.2)
      refine V.ialdN (j := p) hG hF (by decide +kernel) gf7 (by omega) (by decide) ?_
      rw [hg p c1]
      refine V.iastN (j := 1) hG hF (by decide +kernel) gs5 (by omega) (by decide) ?_
      obtain ⟨h_8, gh8⟩ : ∃ z : Hp, z = hset h_5 e (.inl (0, 4, .inl (upd (upd (fun _ => 0) 0 x0) 1 (balT σ (nI p) (gT σ))))) := ⟨_, rfl⟩
      refine V.hp gh8 ?_
      have gk8 : ∀ q : Nat, q ≠ e → h_8 q = h_5 q := fun q hq => by rw [gh8]; exact hset_ne hq
      have gs8 : h_8 e = some (.inl (0, 4, .inl (upd (upd (fun _ => 0) 0 x0) 1 (balT σ (nI p) (gT σ))))) := by rw [gh8]; exact hset_eq
      have hM3 := hM2.keep he (fun z hz => gk8 z hz)
      have hk3 := hk2.st hn (fun z hz => gk8 z hz)
      refine V.run hF [(.dup, 1, .null), (.iconst 2, 1, .int (nI 2)), (.aload_n 0, 1, .null), (.iload 4, 2, .null)] (pc' := 187) (L' := [some (.ref (B 0)), none, some (.long (mPs σ dp p)), none, some (.int (nI p)), none, none, none, none, none]) (st' := [.int (nI p), .ref (B 0), .int (nI 2), .ref e, .ref e]) (by decide +kernel) rfl ?_
      have gf9 : h_8 (B 0) = some (.inr (4, [.int 0, .int (uth u), .int (nI (gT σ)), .ref (B 1), .ref (B 2), .ref (B 3), .ref (B 4), .ref (B 5), .int (nI (gy σ)), .int (gme σ), .int (gde σ), .ref (B 6), .ref (B 7)])) := (gk8 (B 0) (by first | assumption | exact Ne.symm (by assumption) | omega)).trans gf6
      refine V.callV (As := [.int (nI p)]) (st := [.int (nI 2), .ref e, .ref e]) hG hF k_RX4_141 (by decide +kernel) (c_X4_along hG hM3 hR hK c1) gf9 rfl rfl ⟨by rw [hRm]; decide, by rw [hRm]; decide⟩ (Nat.le_of_ble_eq_true rfl) rfl (fun v h_10 gp10 => ?_) (fun E h9 hx => hx.elim)
      obtain ⟨rfl, he_gp10⟩ := gp10
      rw [he_gp10]
      show V G F _ _ _ 190 [some (.ref (B 0)), none, some (.long (mPs σ dp p)), none, some (.int (nI p)), none, none, none, none, none] [.int (alB σ p), .int (nI 2), .ref e, .ref e] h_8
      rw [hO p c1]
      refine V.iastN (j := 2) hG hF (by decide +kernel) gs8 (by omega) (by decide) ?_
      obtain ⟨h_11, gh11⟩ : ∃ z : Hp, z = hset h_8 e (.inl (0, 4, .inl (upd (upd (upd (fun _ => 0) 0 x0) 1 (balT σ (nI p) (gT σ))) 2 (gOA σ (nI p))))) := ⟨_, rfl⟩
      refine V.hp gh11 ?_
      have gk11 : ∀ q : Nat, q ≠ e → h_11 q = h_8 q := fun q hq => by rw [gh11]; exact hset_ne hq
      have gs11 : h_11 e = some (.inl (0, 4, .inl (upd (upd (upd (fun _ => 0) 0 x0) 1 (balT σ (nI p) (gT σ))) 2 (gOA σ (nI p))))) := by rw [gh11]; exact hset_eq
      have hM4 := hM3.keep he (fun z hz => gk11 z hz)
      have hk4 := hk3.st hn (fun z hz => gk11 z hz)
      refine V.run hF [(.dup, 1, .null), (.iconst 3, 1, .int (nI 3)), (.aload_n 0, 1, .null), (.iload 4, 2, .null)] (pc' := 196) (L' := [some (.ref (B 0)), none, some (.long (mPs σ dp p)), none, some (.int (nI p)), none, none, none, none, none]) (st' := [.int (nI p), .ref (B 0), .int (nI 3), .ref e, .ref e]) (by decide +kernel) rfl ?_
      have gf12 : h_11 (B 0) = some (.inr (4, [.int 0, .int (uth u), .int (nI (gT σ)), .ref (B 1), .ref (B 2), .ref (B 3), .ref (B 4), .ref (B 5), .int (nI (gy σ)), .int (gme σ), .int (gde σ), .ref (B 6), .ref (B 7)])) := (gk11 (B 0) (by first | assumption | exact Ne.symm (by assumption) | omega)).trans gf9
      refine V.callV (As := [.int (nI p)]) (st := [.int (nI 3), .ref e, .ref e]) hG hF k_RX4_151 (by decide +kernel) (c_X4_risk hG hM4 hR c1) gf12 rfl rfl ⟨by rw [hRm]; decide, by rw [hRm]; decide⟩ (Nat.le_of_ble_eq_true rfl) rfl (fun v h_13 gp13 => ?_) (fun E h9 hx => hx.elim)
      obtain ⟨rfl, he_gp13⟩ := gp13
      rw [he_gp13]
      show V G F _ _ _ 199 [some (.ref (B 0)), none, some (.long (mPs σ dp p)), none, some (.int (nI p)), none, none, none, none, none] [.int (if gth σ p = 0 then 0 else gRk σ (nI p) (gT σ)), .int (nI 3), .ref e, .ref e] h_11
      obtain ⟨rk, hrk⟩ : ∃ y : Int32, y = if gth σ p = 0 then 0 else gRk σ (nI p) (gT σ) := ⟨_, rfl⟩
      rw [← hrk]
      refine V.iastN (j := 3) hG hF (by decide +kernel) gs11 (by omega) (by decide) ?_
      obtain ⟨h_14, gh14⟩ : ∃ z : Hp, z = hset h_11 e (.inl (0, 4, .inl (upd (upd (upd (upd (fun _ => 0) 0 x0) 1 (balT σ (nI p) (gT σ))) 2 (gOA σ (nI p))) 3 rk))) := ⟨_, rfl⟩
      refine V.hp gh14 ?_
      have gk14 : ∀ q : Nat, q ≠ e → h_14 q = h_11 q := fun q hq => by rw [gh14]; exact hset_ne hq
      have gs14 : h_14 e = some (.inl (0, 4, .inl (upd (upd (upd (upd (fun _ => 0) 0 x0) 1 (balT σ (nI p) (gT σ))) 2 (gOA σ (nI p))) 3 rk))) := by rw [gh14]; exact hset_eq
      have hM5 := hM4.keep he (fun z hz => gk14 z hz)
      have hk5 := hk4.st hn (fun z hz => gk14 z hz)
      refine V.run hF [(.astore 5, 2, .null), (.aload 5, 2, .null), (.astore 6, 2, .null), (.aload 6, 2, .null)] (pc' := 208) (L' := [some (.ref (B 0)), none, some (.long (mPs σ dp p)), none, some (.int (nI p)), some (.ref e), some (.ref e), none, none, none]) (st' := [.ref e]) (by decide +kernel) rfl ?_
      refine V.alen hG hF (by decide +kernel) (by decide) gs14 ?_
      show V G F _ _ _ 209 [some (.ref (B 0)), none, some (.long (mPs σ dp p)), none, some (.int (nI p)), some (.ref e), some (.ref e), none, none, none] [.int (nI 4)] h_14
      refine V.run hF [(.istore 7, 2, .null), (.iconst 0, 1, .int (nI 0)), (.istore 8, 2, .null)] (pc' := 214) (L' := [some (.ref (B 0)), none, some (.long (mPs σ dp p)), none, some (.int (nI p)), some (.ref e), some (.ref e), some (.int (nI 4)), some (.int (nI 0)), none]) (st' := []) (by decide +kernel) rfl ?_
      refine dg_F2 hG hF (d' := mP4 σ p (mPs σ dp p)) gs14 (by rw [fo_4, hx0, hrk, mP4]) ?_
      refine V.run hF [(.iconst 0, 1, .int (nI 0)), (.istore 6, 2, .null)] (pc' := 247) (L' := [some (.ref (B 0)), none, some (.long (mP4 σ p (mPs σ dp p))), none, some (.int (nI p)), none, some (.int (nI 0)), none, none, none]) (st' := []) (by decide +kernel) rfl ?_
      rw [ek1, es1]
      exact dg_O hG hF hRm hR hM5 (fun z6 => ih c1 _ _ _ hM5 hk5 none z6 none none none) 0 (Nat.zero_le _)
    refine V.if_eq hF (off := 7) (tgt := 170) (by decide +kernel) (by decide) (fun c3 => ?_) (fun c3 => ?_)
    · skip
      refine V.run hF [(.iconst 0, 1, .int 0)] (pc' := 171) (L' := [some (.ref (B 0)), none, some (.long (mPs σ dp p)), none, some (.int (nI p)), none, none, none, none, none]) (st' := [.int 0, .int (nI 0), .ref e, .ref e]) (by decide +kernel) rfl ?_
      exact rest _ (by rw [tf, if_neg (fun q => q c3)])
    · skip
      refine V.run hF [(.iconst 1, 1, .int 1), (.goto 4, 3, .null)] (pc' := 171) (L' := [some (.ref (B 0)), none, some (.long (mPs σ dp p)), none, some (.int (nI p)), none, none, none, none, none]) (st' := [.int 1, .int (nI 0), .ref e, .ref e]) (by decide +kernel) rfl ?_
      exact rest _ (by rw [tf, if_pos c3])
set_option maxHeartbeats 16000000 in
theorem c_X4_digest (hG : GOk G) (hM : MO h B σ x u md hs) (hR : RM σ u) (hE : PEA σ) (hK : RST σ) (hO : ∀ p, p < 8 → alB σ p = gOA σ (nI p)) (hD : rdB σ 8 0 = rdd σ) (hy : gy σ < 2 ^ 29) : Ct G yX4_digest (.code yX4_digest cX4_digest 10 (some .long)) 8 160 17 66 [.ref (B 0)] h (is_D B σ u h (dgst σ)) pxN := by
  refine Ct.of (by decide +kernel) (Nat.le_of_ble_eq_true rfl) fun F hF hT hN hRm => ?_
  have h8 := hR.1
  refine V.run hF [(.aload_n 0, 1, .null), (.iconst 0, 1, .int 0)] (pc' := 2) (L' := [some (.ref (B 0)), none, none, none, none, none, none, none, none, none]) (st' := [.int 0, .ref (B 0)]) (by decide +kernel) rfl ?_
  refine V.putf hG hF k_RX4_36 (by decide +kernel) hM.2.1 (fun C T N hc => by cases hc; exact ⟨rfl, .int, by decide +kernel, rfl, rfl⟩) (Nat.le_of_ble_eq_true rfl) ?_
  obtain ⟨h_1, gh1⟩ : ∃ z : Hp, z = hset h (B 0) (.inr (4, [.int 0, .int (uth u), .int (nI (gT σ)), .ref (B 1), .ref (B 2), .ref (B 3), .ref (B 4), .ref (B 5), .int (nI (gy σ)), .int (gme σ), .int (gde σ), .ref (B 6), .ref (B 7)])) := ⟨_, rfl⟩
  refine V.hp gh1 ?_
  have gk1 : ∀ q : Nat, q ≠ (B 0) → h_1 q = h q := fun q hq => by rw [gh1]; exact hset_ne hq
  have gs1 : h_1 (B 0) = some (.inr (4, [.int 0, .int (uth u), .int (nI (gT σ)), .ref (B 1), .ref (B 2), .ref (B 3), .ref (B 4), .ref (B 5), .int (nI (gy σ)), .int (gme σ), .int (gde σ), .ref (B 6), .ref (B 7)])) := by rw [gh1]; exact hset_eq
  have hM0 := hM.th gs1 (fun q hq => gk1 q hq)
  have hk0 : kpN h h_1 B := kpN.rf.kB (kpB.one (i := 0) (by omega) (fun q hq => gk1 q hq))
  obtain ⟨h1, eh1⟩ : ∃ z, z = h_1 := ⟨_, rfl⟩
  rw [← eh1] at hM0 hk0 ⊢
  refine V.run hF [(.bipush 10, 2, .int (nI 10))] (pc' := 7) (L' := [some (.ref (B 0)), none, none, none, none, none, none, none, none, none]) (st' := [.int (nI 10)]) (by decide +kernel) rfl ?_
  refine V.newa (aty := .int) (t := 0) (N := 10) (a0 := (10, .inl (fun _ => 0))) hG hF (by decide) rfl tw_arr_0.1 (by decide +kernel) (by decide) (by decide) (by decide) (fun _ => rfl) (fun e hq_e => ?_)
  have ne_B0_e : (B 0) ≠ e := ne_new hM0.2.1 hq_e
  obtain ⟨h_2, gh2⟩ : ∃ z : Hp, z = hset h1 e (.inl (0, 10, .inl (fun _ => 0))) := ⟨_, rfl⟩
  refine V.hp gh2 ?_
  have gk2 : ∀ q : Nat, q ≠ e → h_2 q = h1 q := fun q hq => by rw [gh2]; exact hset_ne hq
  have gs2 : h_2 e = some (.inl (0, 10, .inl (fun _ => 0))) := by rw [gh2]; exact hset_eq
  have he : ∀ i, i < 8 → B i ≠ e := fun i hi => by
    obtain ⟨c, hc⟩ := hM0.live hi
    exact ne_new hc hq_e
  have hn := isN.of hk0 hM0 hq_e
  have hM1 := hM0.keep he (fun z hz => gk2 z hz)
  have hk1 := hk0.st hn (fun z hz => gk2 z hz)
  refine V.run hF [(.dup, 1, .null), (.iconst 0, 1, .int (nI 0)), (.aload_n 0, 1, .null)] (pc' := 12) (L' := [some (.ref (B 0)), none, none, none, none, none, none, none, none, none]) (st' := [.ref (B 0), .int (nI 0), .ref e, .ref e]) (by decide +kernel) rfl ?_
  have gf3 : h_2 (B 0) = some (.inr (4, [.int 0, .int (uth u), .int (nI (gT σ)), .ref (B 1), .ref (B 2), .ref (B 3), .ref (B 4), .ref (B 5), .int (nI (gy σ)), .int (gme σ), .int (gde σ), .ref (B 6), .ref (B 7)])) := (gk2 (B 0) (by first | assumption | exact Ne.symm (by assumption) | omega)).trans hM0.2.1
  refine V.getf hG hF k_RX4_110 (by decide +kernel) gf3 rfl ?_
  refine V.iastN (j := 0) hG hF (by decide +kernel) gs2 (by omega) (by decide) ?_
  obtain ⟨h_4, gh4⟩ : ∃ z : Hp, z = hset h_2 e (.inl (0, 10, .inl (upd (fun _ => 0) 0 (nI (gy σ))))) := ⟨_, rfl⟩
  refine V.hp gh4 ?_
  have gk4 : ∀ q : Nat, q ≠ e → h_4 q = h_2 q := fun q hq => by rw [gh4]; exact hset_ne hq
  have gs4 : h_4 e = some (.inl (0, 10, .inl (upd (fun _ => 0) 0 (nI (gy σ))))) := by rw [gh4]; exact hset_eq
  have hM2 := hM1.keep he (fun z hz => gk4 z hz)
  have hk2 := hk1.st hn (fun z hz => gk4 z hz)
  refine V.run hF [(.dup, 1, .null), (.iconst 1, 1, .int (nI 1)), (.aload_n 0, 1, .null)] (pc' := 19) (L' := [some (.ref (B 0)), none, none, none, none, none, none, none, none, none]) (st' := [.ref (B 0), .int (nI 1), .ref e, .ref e]) (by decide +kernel) rfl ?_
  have gf5 : h_4 (B 0) = some (.inr (4, [.int 0, .int (uth u), .int (nI (gT σ)), .ref (B 1), .ref (B 2), .ref (B 3), .ref (B 4), .ref (B 5), .int (nI (gy σ)), .int (gme σ), .int (gde σ), .ref (B 6), .ref (B 7)])) := (gk4 (B 0) (by first | assumption | exact Ne.symm (by assumption) | omega)).trans gf3
  refine V.getf hG hF k_RX4_43 (by decide +kernel) gf5 rfl ?_
  refine V.iastN (j := 1) hG hF (by decide +kernel) gs4 (by omega) (by decide) ?_
  obtain ⟨h_6, gh6⟩ : ∃ z : Hp, z = hset h_4 e (.inl (0, 10, .inl (upd (upd (fun _ => 0) 0 (nI (gy σ))) 1 (nI (gT σ))))) := ⟨_, rfl⟩
  refine V.hp gh6 ?_
  have gk6 : ∀ q : Nat, q ≠ e → h_6 q = h_4 q := fun q hq => by rw [gh6]; exact hset_ne hq
  have gs6 : h_6 e = some (.inl (0, 10, .inl (upd (upd (fun _ => 0) 0 (nI (gy σ))) 1 (nI (gT σ))))) := by rw [gh6]; exact hset_eq
  have hM3 := hM2.keep he (fun z hz => gk6 z hz)
  have hk3 := hk2.st hn (fun z hz => gk6 z hz)
  refine V.run hF [(.dup, 1, .null), (.iconst 2, 1, .int (nI 2)), (.aload_n 0, 1, .null)] (pc' := 26) (L' := [some (.ref (B 0)), none, none, none, none, none, none, none, none, none]) (st' := [.ref (B 0), .int (nI 2), .ref e, .ref e]) (by decide +kernel) rfl ?_
  have gf7 : h_6 (B 0) = some (.inr (4, [.int 0, .int (uth u), .int (nI (gT σ)), .ref (B 1), .ref (B 2), .ref (B 3), .ref (B 4), .ref (B 5), .int (nI (gy σ)), .int (gme σ), .int (gde σ), .ref (B 6), .ref (B 7)])) := (gk6 (B 0) (by first | assumption | exact Ne.symm (by assumption) | omega)).trans gf5
  refine V.callV (As := []) (st := [.int (nI 2), .ref e, .ref e]) hG hF k_RX4_119 (by decide +kernel) (c_X4_all hG hM3 hR) gf7 rfl rfl ⟨by rw [hRm]; decide, by rw [hRm]; decide⟩ (Nat.le_of_ble_eq_true rfl) rfl (fun v h_8 gp8 => ?_) (fun E h9 hx => hx.elim)
  obtain ⟨rfl, he_gp8⟩ := gp8
  rw [he_gp8]
  show V G F _ _ _ 29 [some (.ref (B 0)), none, none, none, none, none, none, none, none, none] [.int (gLn σ (gT σ)), .int (nI 2), .ref e, .ref e] h_6
  refine V.iastN (j := 2) hG hF (by decide +kernel) gs6 (by omega) (by decide) ?_
  obtain ⟨h_9, gh9⟩ : ∃ z : Hp, z = hset h_6 e (.inl (0, 10, .inl (upd (upd (upd (fun _ => 0) 0 (nI (gy σ))) 1 (nI (gT σ))) 2 (gLn σ (gT σ))))) := ⟨_, rfl⟩
  refine V.hp gh9 ?_
  have gk9 : ∀ q : Nat, q ≠ e → h_9 q = h_6 q := fun q hq => by rw [gh9]; exact hset_ne hq
  have gs9 : h_9 e = some (.inl (0, 10, .inl (upd (upd (upd (fun _ => 0) 0 (nI (gy σ))) 1 (nI (gT σ))) 2 (gLn σ (gT σ))))) := by rw [gh9]; exact hset_eq
  have hM4 := hM3.keep he (fun z hz => gk9 z hz)
  have hk4 := hk3.st hn (fun z hz => gk9 z hz)
  refine V.run hF [(.dup, 1, .null), (.iconst 3, 1, .int (nI 3)), (.aload_n 0, 1, .null)] (pc' := 33) (L' := [some (.ref (B 0)), none, none, none, none, none, none, none, none, none]) (st' := [.ref (B 0), .int (nI 3), .ref e, .ref e]) (by decide +kernel) rfl ?_
  have gf10 : h_9 (B 0) = some (.inr (4, [.int 0, .int (uth u), .int (nI (gT σ)), .ref (B 1), .ref (B 2), .ref (B 3), .ref (B 4), .ref (B 5), .int (nI (gy σ)), .int (gme σ), .int (gde σ), .ref (B 6), .ref (B 7)])) := (gk9 (B 0) (by first | assumption | exact Ne.symm (by assumption) | omega)).trans gf7
  refine V.getf hG hF k_RX4_107 (by decide +kernel) gf10 rfl ?_
  refine V.iastN (j := 3) hG hF (by decide +kernel) gs9 (by omega) (by decide) ?_
  obtain ⟨h_11, gh11⟩ : ∃ z : Hp, z = hset h_9 e (.inl (0, 10, .inl (upd (upd (upd (upd (fun _ => 0) 0 (nI (gy σ))) 1 (nI (gT σ))) 2 (gLn σ (gT σ))) 3 (gme σ)))) := ⟨_, rfl⟩
  refine V.hp gh11 ?_
  have gk11 : ∀ q : Nat, q ≠ e → h_11 q = h_9 q := fun q hq => by rw [gh11]; exact hset_ne hq
  have gs11 : h_11 e = some (.inl (0, 10, .inl (upd (upd (upd (upd (fun _ => 0) 0 (nI (gy σ))) 1 (nI (gT σ))) 2 (gLn σ (gT σ))) 3 (gme σ)))) := by rw [gh11]; exact hset_eq
  have hM5 := hM4.keep he (fun z hz => gk11 z hz)
  have hk5 := hk4.st hn (fun z hz => gk11 z hz)
  refine V.run hF [(.dup, 1, .null), (.iconst 4, 1, .int (nI 4)), (.aload_n 0, 1, .null)] (pc' := 40) (L' := [some (.ref (B 0)), none, none, none, none, none, none, none, none, none]) (st' := [.ref (B 0), .int (nI 4), .ref e, .ref e]) (by decide +kernel) rfl ?_
  have gf12 : h_11 (B 0) = some (.inr (4, [.int 0, .int (uth u), .int (nI (gT σ)), .ref (B 1), .ref (B 2), .ref (B 3), .ref (B 4), .ref (B 5), .int (nI (gy σ)), .int (gme σ), .int (gde σ), .ref (B 6), .ref (B 7)])) := (gk11 (B 0) (by first | assumption | exact Ne.symm (by assumption) | omega)).trans gf10
  refine V.getf hG hF k_RX4_101 (by decide +kernel) gf12 rfl ?_
  refine V.iastN (j := 4) hG hF (by decide +kernel) gs11 (by omega) (by decide) ?_
  obtain ⟨h_13, gh13⟩ : ∃ z : Hp, z = hset h_11 e (.inl (0, 10, .inl (upd (upd (upd (upd (upd (fun _ => 0) 0 (nI (gy σ))) 1 (nI (gT σ))) 2 (gLn σ (gT σ))) 3 (gme σ)) 4 (gde σ)))) := ⟨_, rfl⟩
  refine V.hp gh13 ?_
  have gk13 : ∀ q : Nat, q ≠ e → h_13 q = h_11 q := fun q hq => by rw [gh13]; exact hset_ne hq
  have gs13 : h_13 e = some (.inl (0, 10, .inl (upd (upd (upd (upd (upd (fun _ => 0) 0 (nI (gy σ))) 1 (nI (gT σ))) 2 (gLn σ (gT σ))) 3 (gme σ)) 4 (gde σ)))) := by rw [gh13]; exact hset_eq
  have hM6 := hM5.keep he (fun z hz => gk13 z hz)
  have hk6 := hk5.st hn (fun z hz => gk13 z hz)
  refine V.run hF [(.dup, 1, .null), (.iconst 5, 1, .int (nI 5)), (.aload_n 0, 1, .null)] (pc' := 47) (L' := [some (.ref (B 0)), none, none, none, none, none, none, none, none, none]) (st' := [.ref (B 0), .int (nI 5), .ref e, .ref e]) (by decide +kernel) rfl ?_
  have gf14 : h_13 (B 0) = some (.inr (4, [.int 0, .int (uth u), .int (nI (gT σ)), .ref (B 1), .ref (B 2), .ref (B 3), .ref (B 4), .ref (B 5), .int (nI (gy σ)), .int (gme σ), .int (gde σ), .ref (B 6), .ref (B 7)])) := (gk13 (B 0) (by first | assumption | exact Ne.symm (by assumption) | omega)).trans gf12
  refine V.callV (As := []) (st := [.int (nI 5), .ref e, .ref e]) hG hF k_RX4_132 (by decide +kernel) (c_X4_sum hG hM6 hR) gf14 rfl rfl ⟨by rw [hRm]; decide, by rw [hRm]; decide⟩ (Nat.le_of_ble_eq_true rfl) rfl (fun v h_15 gp15 => ?_) (fun E h9 hx => hx.elim)
  obtain ⟨rfl, he_gp15⟩ := gp15
  rw [he_gp15]
  show V G F _ _ _ 50 [some (.ref (B 0)), none, none, none, none, none, none, none, none, none] [.int (gTo σ (gT σ)), .int (nI 5), .ref e, .ref e] h_13
  refine V.iastN (j := 5) hG hF (by decide +kernel) gs13 (by omega) (by decide) ?_
  obtain ⟨h_16, gh16⟩ : ∃ z : Hp, z = hset h_13 e (.inl (0, 10, .inl (upd (upd (upd (upd (upd (upd (fun _ => 0) 0 (nI (gy σ))) 1 (nI (gT σ))) 2 (gLn σ (gT σ))) 3 (gme σ)) 4 (gde σ)) 5 (gTo σ (gT σ))))) := ⟨_, rfl⟩
  refine V.hp gh16 ?_
  have gk16 : ∀ q : Nat, q ≠ e → h_16 q = h_13 q := fun q hq => by rw [gh16]; exact hset_ne hq
  have gs16 : h_16 e = some (.inl (0, 10, .inl (upd (upd (upd (upd (upd (upd (fun _ => 0) 0 (nI (gy σ))) 1 (nI (gT σ))) 2 (gLn σ (gT σ))) 3 (gme σ)) 4 (gde σ)) 5 (gTo σ (gT σ))))) := by rw [gh16]; exact hset_eq
  have hM7 := hM6.keep he (fun z hz => gk16 z hz)
  have hk7 := hk6.st hn (fun z hz => gk16 z hz)
  refine V.run hF [(.dup, 1, .null), (.bipush 6, 2, .int (nI 6)), (.aload_n 0, 1, .null)] (pc' := 55) (L' := [some (.ref (B 0)), none, none, none, none, none, none, none, none, none]) (st' := [.ref (B 0), .int (nI 6), .ref e, .ref e]) (by decide +kernel) rfl ?_
  have gf17 : h_16 (B 0) = some (.inr (4, [.int 0, .int (uth u), .int (nI (gT σ)), .ref (B 1), .ref (B 2), .ref (B 3), .ref (B 4), .ref (B 5), .int (nI (gy σ)), .int (gme σ), .int (gde σ), .ref (B 6), .ref (B 7)])) := (gk16 (B 0) (by first | assumption | exact Ne.symm (by assumption) | omega)).trans gf14
  refine V.callV (As := []) (st := [.int (nI 6), .ref e, .ref e]) hG hF k_RX4_135 (by decide +kernel) (c_X4_most hG hM7 hR) gf17 rfl rfl ⟨by rw [hRm]; decide, by rw [hRm]; decide⟩ (Nat.le_of_ble_eq_true rfl) rfl (fun v2 h2 hp => ?_) (fun E h9 hx => hx.elim)
  obtain ⟨rfl, g, hM8, hb8⟩ := hp
  have hk8 := hk7.kB hb8
  have ce8 : h2 e = some (.inl (0, 10, .inl (upd (upd (upd (upd (upd (upd (fun _ => 0) 0 (nI (gy σ))) 1 (nI (gT σ))) 2 (gLn σ (gT σ))) 3 (gme σ)) 4 (gde σ)) 5 (gTo σ (gT σ))))) := (hb8 e (fun i hi q => he i hi q.symm)).trans gs16
  have ne_B0_e : B 0 ≠ e := he 0 (by omega)
  show V G F _ _ _ 58 [some (.ref (B 0)), none, none, none, none, none, none, none, none, none] [.int (rch σ), .int (nI 6), .ref e, .ref e] h2
  refine V.iastN (j := 6) hG hF (by decide +kernel) ce8 (by omega) (by decide) ?_
  obtain ⟨h_19, gh19⟩ : ∃ z : Hp, z = hset h2 e (.inl (0, 10, .inl (upd (upd (upd (upd (upd (upd (upd (fun _ => 0) 0 (nI (gy σ))) 1 (nI (gT σ))) 2 (gLn σ (gT σ))) 3 (gme σ)) 4 (gde σ)) 5 (gTo σ (gT σ))) 6 (rch σ)))) := ⟨_, rfl⟩
  refine V.hp gh19 ?_
  have gk19 : ∀ q : Nat, q ≠ e → h_19 q = h2 q := fun q hq => by rw [gh19]; exact hset_ne hq
  have gs19 : h_19 e = some (.inl (0, 10, .inl (upd (upd (upd (upd (upd (upd (upd (fun _ => 0) 0 (nI (gy σ))) 1 (nI (gT σ))) 2 (gLn σ (gT σ))) 3 (gme σ)) 4 (gde σ)) 5 (gTo σ (gT σ))) 6 (rch σ)))) := by rw [gh19]; exact hset_eq
  have hM9 := hM8.keep he (fun z hz => gk19 z hz)
  have hk9 := hk8.st hn (fun z hz => gk19 z hz)
  refine V.run hF [(.dup, 1, .null), (.bipush 7, 2, .int (nI 7)), (.aload_n 0, 1, .null)] (pc' := 63) (L' := [some (.ref (B 0)), none, none, none, none, none, none, none, none, none]) (st' := [.ref (B 0), .int (nI 7), .ref e, .ref e]) (by decide +kernel) rfl ?_
  have gf20 : h_19 (B 0) = some (.inr (4, [.int 0, .int (uth u), .int (nI (gT σ)), .ref (B 1), .ref (B 2), .ref (B 3), .ref (B 4), .ref (B 5), .int (nI (gy σ)), .int (gme σ), .int (gde σ), .ref (B 6), .ref (B 7)])) := (gk19 (B 0) (by first | assumption | exact Ne.symm (by assumption) | omega)).trans hM8.2.1
  refine V.callV (As := []) (st := [.int (nI 7), .ref e, .ref e]) hG hF k_RX4_144 (by decide +kernel) (c_X4_round hG hM9 hR hK) gf20 rfl rfl ⟨by rw [hRm]; decide, by rw [hRm]; decide⟩ (Nat.le_of_ble_eq_true rfl) rfl (fun v h_21 gp21 => ?_) (fun E h9 hx => hx.elim)
  obtain ⟨rfl, he_gp21⟩ := gp21
  rw [he_gp21]
  show V G F _ _ _ 66 [some (.ref (B 0)), none, none, none, none, none, none, none, none, none] [.int (rdB σ 8 0), .int (nI 7), .ref e, .ref e] h_19
  rw [hD]
  have rest : ∀ x7, x7 = tf (¬ rdd σ = 0) → V G F (fin G F (is_D B σ u h (dgst σ)) pxN) 16 56 74 [some (.ref (B 0)), none, none, none, none, none, none, none, none, none] [.int x7, .int (nI 7), .ref e, .ref e] h_19 := by
    intro x7 hx7
    refine V.iastN (j := 7) hG hF (by decide +kernel) gs19 (by omega) (by decide) ?_
    obtain ⟨h_22, gh22⟩ : ∃ z : Hp, z = hset h_19 e (.inl (0, 10, .inl (upd (upd (upd (upd (upd (upd (upd (upd (fun _ => 0) 0 (nI (gy σ))) 1 (nI (gT σ))) 2 (gLn σ (gT σ))) 3 (gme σ)) 4 (gde σ)) 5 (gTo σ (gT σ))) 6 (rch σ)) 7 x7))) := ⟨_, rfl⟩
    refine V.hp gh22 ?_
    have gk22 : ∀ q : Nat, q ≠ e → h_22 q = h_19 q := fun q hq => by rw [gh22]; exact hset_ne hq
    have gs22 : h_22 e = some (.inl (0, 10, .inl (upd (upd (upd (upd (upd (upd (upd (upd (fun _ => 0) 0 (nI (gy σ))) 1 (nI (gT σ))) 2 (gLn σ (gT σ))) 3 (gme σ)) 4 (gde σ)) 5 (gTo σ (gT σ))) 6 (rch σ)) 7 x7))) := by rw [gh22]; exact hset_eq
    have hMa := hM9.keep he (fun z hz => gk22 z hz)
    have hka := hk9.st hn (fun z hz => gk22 z hz)
    refine V.run hF [(.dup, 1, .null), (.bipush 8, 2, .int (nI 8)), (.aload_n 0, 1, .null)] (pc' := 79) (L' := [some (.ref (B 0)), none, none, none, none, none, none, none, none, none]) (st' := [.ref (B 0), .int (nI 8), .ref e, .ref e]) (by decide +kernel) rfl ?_
    have gf23 : h_22 (B 0) = some (.inr (4, [.int 0, .int (uth u), .int (nI (gT σ)), .ref (B 1), .ref (B 2), .ref (B 3), .ref (B 4), .ref (B 5), .int (nI (gy σ)), .int (gme σ), .int (gde σ), .ref (B 6), .ref (B 7)])) := (gk22 (B 0) (by first | assumption | exact Ne.symm (by assumption) | omega)).trans gf20
    refine V.callV (As := []) (st := [.int (nI 8), .ref e, .ref e]) hG hF k_RX4_148 (by decide +kernel) (c_X4_best hG hMa hR hE) gf23 rfl rfl ⟨by rw [hRm]; decide, by rw [hRm]; decide⟩ (Nat.le_of_ble_eq_true rfl) rfl (fun v3 h3 hp => ?_) (fun E h9 hx => hx.elim)
    obtain ⟨rfl, md3, hs3, hMb, hbb⟩ := hp
    have hkb := hka.kB hbb
    have ceb : h3 e = some (.inl (0, 10, .inl (upd (upd (upd (upd (upd (upd (upd (upd (fun _ => 0) 0 (nI (gy σ))) 1 (nI (gT σ))) 2 (gLn σ (gT σ))) 3 (gme σ)) 4 (gde σ)) 5 (gTo σ (gT σ))) 6 (rch σ)) 7 x7))) := (hbb e (fun i hi q => he i hi q.symm)).trans gs22
    show V G F _ _ _ 82 [some (.ref (B 0)), none, none, none, none, none, none, none, none, none] [.int ((bst σ 8).1), .int (nI 8), .ref e, .ref e] h3
    refine V.iastN (j := 8) hG hF (by decide +kernel) ceb (by omega) (by decide) ?_
    obtain ⟨h_25, gh25⟩ : ∃ z : Hp, z = hset h3 e (.inl (0, 10, .inl (upd (upd (upd (upd (upd (upd (upd (upd (upd (fun _ => 0) 0 (nI (gy σ))) 1 (nI (gT σ))) 2 (gLn σ (gT σ))) 3 (gme σ)) 4 (gde σ)) 5 (gTo σ (gT σ))) 6 (rch σ)) 7 x7) 8 ((bst σ 8).1)))) := ⟨_, rfl⟩
    refine V.hp gh25 ?_
    have gk25 : ∀ q : Nat, q ≠ e → h_25 q = h3 q := fun q hq => by rw [gh25]; exact hset_ne hq
    have gs25 : h_25 e = some (.inl (0, 10, .inl (upd (upd (upd (upd (upd (upd (upd (upd (upd (fun _ => 0) 0 (nI (gy σ))) 1 (nI (gT σ))) 2 (gLn σ (gT σ))) 3 (gme σ)) 4 (gde σ)) 5 (gTo σ (gT σ))) 6 (rch σ)) 7 x7) 8 ((bst σ 8).1)))) := by rw [gh25]; exact hset_eq
    have hMc := hMb.keep he (fun z hz => gk25 z hz)
    have hkc := hkb.st hn (fun z hz => gk25 z hz)
    refine V.run hF [(.dup, 1, .null), (.bipush 9, 2, .int (nI 9)), (.aload_n 0, 1, .null), (.iconst 5, 1, .int 5)] (pc' := 88) (L' := [some (.ref (B 0)), none, none, none, none, none, none, none, none, none]) (st' := [.int 5, .ref (B 0), .int (nI 9), .ref e, .ref e]) (by decide +kernel) rfl ?_
    have gf26 : h_25 (B 0) = some (.inr (4, [.int 0, .int (uth u), .int (nI (gT σ)), .ref (B 1), .ref (B 2), .ref (B 3), .ref (B 4), .ref (B 5), .int (nI (gy σ)), .int (gme σ), .int (gde σ), .ref (B 6), .ref (B 7)])) := (gk25 (B 0) (by first | assumption | exact Ne.symm (by assumption) | omega)).trans hMb.2.1
    refine V.callV (As := [.int 5]) (st := [.int (nI 9), .ref e, .ref e]) hG hF k_RX4_157 (by decide +kernel) (c_X4_meltIn hG hMc hR (by omega) 5) gf26 rfl rfl ⟨by rw [hRm]; decide, by rw [hRm]; decide⟩ (Nat.le_of_ble_eq_true rfl) rfl (fun v h_27 gp27 => ?_) (fun E h9 hx => hx.elim)
    obtain ⟨rfl, he_gp27⟩ := gp27
    rw [he_gp27]
    show V G F _ _ _ 91 [some (.ref (B 0)), none, none, none, none, none, none, none, none, none] [.int (gMI σ 5 (gT σ)), .int (nI 9), .ref e, .ref e] h_25
    refine V.iastN (j := 9) hG hF (by decide +kernel) gs25 (by omega) (by decide) ?_
    obtain ⟨h_28, gh28⟩ : ∃ z : Hp, z = hset h_25 e (.inl (0, 10, .inl (upd (upd (upd (upd (upd (upd (upd (upd (upd (upd (fun _ => 0) 0 (nI (gy σ))) 1 (nI (gT σ))) 2 (gLn σ (gT σ))) 3 (gme σ)) 4 (gde σ)) 5 (gTo σ (gT σ))) 6 (rch σ)) 7 x7) 8 ((bst σ 8).1)) 9 (gMI σ 5 (gT σ))))) := ⟨_, rfl⟩
    refine V.hp gh28 ?_
    have gk28 : ∀ q : Nat, q ≠ e → h_28 q = h_25 q := fun q hq => by rw [gh28]; exact hset_ne hq
    have gs28 : h_28 e = some (.inl (0, 10, .inl (upd (upd (upd (upd (upd (upd (upd (upd (upd (upd (fun _ => 0) 0 (nI (gy σ))) 1 (nI (gT σ))) 2 (gLn σ (gT σ))) 3 (gme σ)) 4 (gde σ)) 5 (gTo σ (gT σ))) 6 (rch σ)) 7 x7) 8 ((bst σ 8).1)) 9 (gMI σ 5 (gT σ))))) := by rw [gh28]; exact hset_eq
    have hMd := hMc.keep he (fun z hz => gk28 z hz)
    have hkd := hkc.st hn (fun z hz => gk28 z hz)
    refine V.run hF [(.astore_n 1, 1, .null)] (pc' := 93) (L' := [some (.ref (B 0)), some (.ref e), none, none, none, none, none, none, none, none]) (st' := []) (by decide +kernel) rfl ?_
    refine V.ldc2 hG hF tw_904 (by decide +kernel) ?_
    refine V.run hF [(.lstore_n 2, 1, .null), (.aload_n 1, 1, .null), (.astore 4, 2, .null), (.aload 4, 2, .null)] (pc' := 102) (L' := [some (.ref (B 0)), some (.ref e), some (.long 2357), none, some (.ref e), none, none, none, none, none]) (st' := [.ref e]) (by decide +kernel) rfl ?_
    refine V.alen hG hF (by decide +kernel) (by decide) gs28 ?_
    show V G F _ _ _ 103 [some (.ref (B 0)), some (.ref e), some (.long 2357), none, some (.ref e), none, none, none, none, none] [.int (nI 10)] h_28
    refine V.run hF [(.istore 5, 2, .null), (.iconst 0, 1, .int (nI 0)), (.istore 6, 2, .null)] (pc' := 108) (L' := [some (.ref (B 0)), some (.ref e), some (.long 2357), none, some (.ref e), some (.int (nI 10)), some (.int (nI 0)), none, none, none]) (st' := []) (by decide +kernel) rfl ?_
    refine V.lo (L' := [some (.ref (B 0)), none, some (.long 2357), none, some (.ref e), some (.int (nI 10)), some (.int (nI 0)), none, none, none]) (by simp [lsub]) ?_
    refine dg_F1 hG hF (d' := dg2 σ) gs28 (by rw [fo_10, hx7, dg2, dg1]) ?_
    refine V.run hF [(.iconst 0, 1, .int (nI 0)), (.istore 4, 2, .null)] (pc' := 141) (L' := [some (.ref (B 0)), none, some (.long (dg2 σ)), none, some (.int (nI 0)), none, none, none, none, none]) (st' := []) (by decide +kernel) rfl ?_
    exact V.less (kc' := gT σ + (8 - 0)) (ks' := 3 * gT σ + 4 * (8 - 0)) (by omega) (by omega) (dg_P hG hF hRm hR hE hK hO hy (X := dgst σ) (dp := dg2 σ) rfl 0 (Nat.zero_le _) _ _ _ hMd hkd none none none none none)
  refine V.if_eq hF (off := 7) (tgt := 73) (by decide +kernel) (by decide) (fun c3 => ?_) (fun c3 => ?_)
  · skip
    refine V.run hF [(.iconst 0, 1, .int 0)] (pc' := 74) (L' := [some (.ref (B 0)), none, none, none, none, none, none, none, none, none]) (st' := [.int 0, .int (nI 7), .ref e, .ref e]) (by decide +kernel) rfl ?_
    exact rest _ (by rw [tf, if_neg (fun q => q c3)])
  · skip
    refine V.run hF [(.iconst 1, 1, .int 1), (.goto 4, 3, .null)] (pc' := 74) (L' := [some (.ref (B 0)), none, none, none, none, none, none, none, none, none]) (st' := [.int 1, .int (nI 7), .ref e, .ref e]) (by decide +kernel) rfl ?_
    exact rest _ (by rw [tf, if_pos c3])
end Nj
