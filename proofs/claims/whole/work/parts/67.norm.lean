/-! ===== what class and model answer, in one form ===== -/
def st1 (c : Prop) (k : Int32) : Prop := (k = 0 ∧ c) ∨ (k = 1 ∧ ¬ c)
def st2 (c d : Prop) (k : Int32) : Prop := (k = 0 ∧ c ∧ d) ∨ (k = 1 ∧ ¬ c) ∨ (k = 2 ∧ c ∧ ¬ d)
def st3 (c d e : Prop) (k : Int32) : Prop := (k = 0 ∧ c ∧ d ∧ e) ∨ (k = 1 ∧ ¬ c) ∨ (k = 2 ∧ c ∧ ¬ d) ∨ (k = 3 ∧ c ∧ d ∧ ¬ e)
theorem st1_u {c : Prop} {k k' : Int32} (h : st1 c k) (h' : st1 c k') : k = k' := by
  rcases h with ⟨rfl, h⟩ | ⟨rfl, h⟩ <;> rcases h' with ⟨rfl, g⟩ | ⟨rfl, g⟩ <;> first | rfl | (exfalso; simp_all)
theorem st2_u {c d : Prop} {k k' : Int32} (h : st2 c d k) (h' : st2 c d k') : k = k' := by
  rcases h with ⟨rfl, h, h2⟩ | ⟨rfl, h⟩ | ⟨rfl, h, h2⟩ <;> rcases h' with ⟨rfl, g, g2⟩ | ⟨rfl, g⟩ | ⟨rfl, g, g2⟩ <;> first | rfl | (exfalso; simp_all)
theorem st3_u {c d e : Prop} {k k' : Int32} (h : st3 c d e k) (h' : st3 c d e k') : k = k' := by
  rcases h with ⟨rfl, h, h2, h3⟩ | ⟨rfl, h⟩ | ⟨rfl, h, h2⟩ | ⟨rfl, h, h2, h3⟩ <;> rcases h' with ⟨rfl, g, g2, g3⟩ | ⟨rfl, g⟩ | ⟨rfl, g, g2⟩ | ⟨rfl, g, g2, g3⟩ <;> first | rfl | (exfalso; simp_all)
theorem st1_0 {c : Prop} (h : st1 c 0) : c := by
  rcases h with ⟨-, h⟩ | ⟨h, -⟩
  · exact h
  · exact absurd h (by decide)
theorem st2_0 {c d : Prop} (h : st2 c d 0) : c ∧ d := by
  rcases h with ⟨-, h⟩ | ⟨h, -⟩ | ⟨h, -⟩
  · exact h
  · exact absurd h (by decide)
  · exact absurd h (by decide)
theorem st3_0 {c d e : Prop} (h : st3 c d e 0) : c ∧ d ∧ e := by
  rcases h with ⟨-, h⟩ | ⟨h, -⟩ | ⟨h, -⟩ | ⟨h, -⟩
  · exact h
  · exact absurd h (by decide)
  · exact absurd h (by decide)
  · exact absurd h (by decide)
abbrev nA (σ : Sg) : Nat := 12 + 6 * gT σ
def exA (A A' : Nat → Nat) (K K' : Nat) (h h' : Hp) : Prop := A' 0 = A 0 ∧ (∀ i, i < K' → (∃ j, j < K ∧ A' i = A j) ∨ h (A' i) = none) ∧ (∀ q e, h q = some e → (∀ i, i < K → q ≠ A i) → h' q = some e)
theorem exA.of {A : Nat → Nat} {K : Nat} {h h' : Hp} (hk : kpC h h' A K) : exA A A K K h h' := ⟨rfl, fun i hi => Or.inl ⟨i, hi, rfl⟩, fun q e he hq => (hk q hq).trans he⟩
/-- the class's own answer -/
def cN (st : Int32 → Prop) (val : Int32) (σ σ1 : Sg) (A : Nat → Nat) (h : Hp) : Option Value → Hp → Prop := fun v h' => st 0 ∧ v = some (.int val) ∧ ∃ A' P' r', CS h' A' σ1 P' r' ∧ exA A A' (nA σ) (nA σ1) h h'
/-- .. and its throw -/
def cT (st : Int32 → Prop) (σ : Sg) (A : Nat → Nat) (h : Hp) (cd : String → Int32 → Prop) : String → Hp → Prop := fun E h' => (∃ k, cd E k) ∧ (∀ k, cd E k → st k ∧ ¬ k = 0) ∧ ∃ P' r', CS h' A σ P' r' ∧ kpC h h' A (nA σ)
/-- both, behind the law's handlers -/
def cR (φ : Int32 → Int64) (st : Int32 → Prop) (val : Int32) (σ σ1 : Sg) (A : Nat → Nat) (c : Nat) (h : Hp) : Option Value → Hp → Prop := fun v h' => ∃ k σ' A' P' r' o, v = some (.int k) ∧ st k ∧ ((k = 0 ∧ σ' = σ1 ∧ o 0 = φ val) ∨ (¬ k = 0 ∧ σ' = σ)) ∧ CS h' A' σ' P' r' ∧ h' c = some (out1 o) ∧ A' 0 = A 0 ∧
  (∀ i, i < nA σ' → (∃ j, j < nA σ ∧ A' i = A j) ∨ h (A' i) = none) ∧ (∀ q e, h q = some e → q ≠ c → (∀ i, i < nA σ → q ≠ A i) → h' q = some e)
/-- the model's answer, and its number thrown -/
def mR (st : Int32 → Prop) (val : Int32) (σ σ1 : Sg) (B : Nat → Nat) (h : Hp) : Option Value → Hp → Prop := fun v h' => ∃ k y σ' u md hs, v = some (.int y) ∧ st k ∧ ((k = 0 ∧ σ' = σ1 ∧ y = val) ∨ (¬ k = 0 ∧ σ' = σ)) ∧ RM σ' u ∧ MO h' B σ' k u md hs ∧ kpN h h' B
theorem Ct.conv {G : Gt} {y : MethodName} {w : Cond} {rf rl mc ms : Nat} {As : List Value} {h : Hp} {po po' : Option Value → Hp → Prop} {px px' : String → Hp → Prop} (hM : Ct G y w rf rl mc ms As h po px) (h1 : ∀ v h', po v h' → po' v h') (h2 : ∀ E h', px E h' → px' E h') : Ct G y w rf rl mc ms As h po' px' := by
  refine MetFree.mono hM (fun _ _ q => q) (fun _ _ _ _ _ q => q) (fun a s o s' _ q => ?_)
  rcases q with ⟨⟨v, h', e, q1, q2⟩, q3⟩ | ⟨q0, q1, E, ce, L, ⟨h', hx, q2⟩, q3⟩
  · exact Or.inl ⟨⟨v, h', e, h1 v h' q1, q2⟩, q3⟩
  · exact Or.inr ⟨q0, q1, E, ce, L, ⟨h', h2 E h' hx, q2⟩, q3⟩
section Nf
variable {h h' h1 h2 : Hp} {A B : Nat → Nat} {σ σ1 σ' : Sg} {P P' : PS} {r r' : Nat → Int32} {u : Mu} {x : Int32} {md hs : Nat → Int32} {c : Nat} {st : Int32 → Prop} {val : Int32}
theorem CS.same (hC : CS h A σ P r) (e : ∀ i, i < nA σ → h' (A i) = h (A i)) : CS h' A σ P r := by
  obtain ⟨hI, hT8, hA, h1, h2, h3, h4, h5, h6⟩ := id hC
  have e : ∀ i, i < 12 + 6 * gT σ → h' (A i) = h (A i) := e
  exact ⟨hI, hT8, (e 0 (by omega)).trans hA, (e 1 (by omega)).trans h1, (e 2 (by omega)).trans h2, (e 3 (by omega)).trans h3, SMc.mv h4 (fun i _ _ _ => e i (by omega)), (e 5 (by omega)).trans h5, fun t ht => hC.tb ht (fun i _ q2 => e i (by
    have : t < gT σ := ht
    omega))⟩
theorem MO.mv (hM : MO h B σ x u md hs) (e : ∀ i, i < 8 → h' (B i) = h (B i)) : MO h' B σ x u md hs := by
  obtain ⟨hI, h0, h1, h2, h3, h4, h5, h6, h7⟩ := hM
  exact ⟨hI, (e 0 (by omega)).trans h0, (e 1 (by omega)).trans h1, (e 2 (by omega)).trans h2, (e 3 (by omega)).trans h3, (e 4 (by omega)).trans h4, (e 5 (by omega)).trans h5, (e 6 (by omega)).trans h6, (e 7 (by omega)).trans h7⟩
theorem nR {φ : Int32 → Int64} {cd : String → Int32 → Prop} {o0 : Nat → Int64} (hc : h c = some (out1 o0)) (hAc : ∀ i, i < nA σ → A i ≠ c) : ∀ v h', wI φ (cN st val σ σ1 A h) (cT st σ A h cd) c cd v h' → cR φ st val σ σ1 A c h v h' := by
  rintro v h' (⟨z, h2, o, ⟨s0, ez, A', P', r', hC2, e0, e1, e2⟩, ho, rfl, rfl⟩ | ⟨E, k, ⟨-, q2, P', r', hC2, hk⟩, dE, rfl⟩)
  · cases ez
    have nc : ∀ i, i < nA σ1 → A' i ≠ c := fun i hi q => by
      rcases e1 i hi with ⟨j, hj, e⟩ | e
      · exact hAc j hj (e.symm.trans q)
      · rw [q, hc] at e
        cases e
    exact ⟨0, σ1, A', P', r', vp_updL o 0 (φ val), rfl, s0, Or.inl ⟨rfl, rfl, if_pos rfl⟩, hC2.same (fun i hi => hset_ne (nc i hi)), hset_eq, e0, e1, fun q e he hq hA => (hset_ne hq).trans (e2 q e he hA)⟩
  · obtain ⟨q3, q4⟩ := q2 k dE
    have hc' : h' c = some (out1 o0) := (hk c (fun i hi q => hAc i hi q.symm)).trans hc
    exact ⟨k, σ, A, P', r', o0, rfl, q3, Or.inr ⟨q4, rfl⟩, hC2, hc', rfl, fun i hi => Or.inl ⟨i, hi, rfl⟩, fun q e he _ hA => (hk q hA).trans he⟩
theorem cN_v {o0 : Nat → Int64} (hc : h c = some (out1 o0)) (hAc : ∀ i, i < nA σ → A i ≠ c) : ∀ v h2, cN st val σ σ1 A h v h2 → ∃ z o, v = some (.int z) ∧ h2 c = some (out1 o) := by
  rintro v h2 ⟨-, rfl, A', P', r', -, -, -, e2⟩
  exact ⟨_, o0, rfl, e2 c _ hc (fun i hi q => hAc i hi q.symm)⟩
theorem cT_I (h1 : st 1) (hC : CS h' A σ P' r') (hk : kpC h h' A (nA σ)) : cT st σ A h cdI eI h' := ⟨⟨1, rfl, rfl⟩, fun k q => by
  rw [q.2]
  exact ⟨h1, by decide⟩, P', r', hC, hk⟩
theorem cT_A (h1 : st 1) (hC : CS h' A σ P' r') (hk : kpC h h' A (nA σ)) : cT st σ A h cdA eA h' := ⟨⟨1, rfl, rfl⟩, fun k q => by
  rw [q.2]
  exact ⟨h1, by decide⟩, P', r', hC, hk⟩
theorem cT_AS1 (h1 : st 1) (hC : CS h' A σ P' r') (hk : kpC h h' A (nA σ)) : cT st σ A h cdAS eA h' := ⟨⟨1, Or.inl ⟨rfl, rfl⟩⟩, fun k q => by
  rcases q with ⟨-, rfl⟩ | ⟨q, -⟩
  · exact ⟨h1, by decide⟩
  · exact absurd q (by decide), P', r', hC, hk⟩
theorem cT_AS2 (h1 : st 2) (hC : CS h' A σ P' r') (hk : kpC h h' A (nA σ)) : cT st σ A h cdAS eS h' := ⟨⟨2, Or.inr ⟨rfl, rfl⟩⟩, fun k q => by
  rcases q with ⟨q, -⟩ | ⟨-, rfl⟩
  · exact absurd q (by decide)
  · exact ⟨h1, by decide⟩, P', r', hC, hk⟩
theorem cT_IA1 (h1 : st 1) (hC : CS h' A σ P' r') (hk : kpC h h' A (nA σ)) : cT st σ A h cdIA eI h' := ⟨⟨1, Or.inl ⟨rfl, rfl⟩⟩, fun k q => by
  rcases q with ⟨-, rfl⟩ | ⟨q, -⟩
  · exact ⟨h1, by decide⟩
  · exact absurd q (by decide), P', r', hC, hk⟩
theorem cT_IA2 (h1 : st 2) (hC : CS h' A σ P' r') (hk : kpC h h' A (nA σ)) : cT st σ A h cdIA eA h' := ⟨⟨2, Or.inr ⟨rfl, rfl⟩⟩, fun k q => by
  rcases q with ⟨q, -⟩ | ⟨-, rfl⟩
  · exact absurd q (by decide)
  · exact ⟨h1, by decide⟩, P', r', hC, hk⟩
theorem cT_IS1 (h1 : st 1) (hC : CS h' A σ P' r') (hk : kpC h h' A (nA σ)) : cT st σ A h cdIS eI h' := ⟨⟨1, Or.inl ⟨rfl, rfl⟩⟩, fun k q => by
  rcases q with ⟨-, rfl⟩ | ⟨q, -⟩
  · exact ⟨h1, by decide⟩
  · exact absurd q (by decide), P', r', hC, hk⟩
theorem cT_IS2 (h1 : st 2) (hC : CS h' A σ P' r') (hk : kpC h h' A (nA σ)) : cT st σ A h cdIS eS h' := ⟨⟨2, Or.inr ⟨rfl, rfl⟩⟩, fun k q => by
  rcases q with ⟨q, -⟩ | ⟨-, rfl⟩
  · exact absurd q (by decide)
  · exact ⟨h1, by decide⟩, P', r', hC, hk⟩
theorem cT_IAS1 (h1 : st 1) (hC : CS h' A σ P' r') (hk : kpC h h' A (nA σ)) : cT st σ A h cdIAS eI h' := ⟨⟨1, Or.inl ⟨rfl, rfl⟩⟩, fun k q => by
  rcases q with ⟨-, rfl⟩ | ⟨q, -⟩ | ⟨q, -⟩
  · exact ⟨h1, by decide⟩
  · exact absurd q (by decide)
  · exact absurd q (by decide), P', r', hC, hk⟩
theorem cT_IAS2 (h1 : st 2) (hC : CS h' A σ P' r') (hk : kpC h h' A (nA σ)) : cT st σ A h cdIAS eA h' := ⟨⟨2, Or.inr (Or.inl ⟨rfl, rfl⟩)⟩, fun k q => by
  rcases q with ⟨q, -⟩ | ⟨-, rfl⟩ | ⟨q, -⟩
  · exact absurd q (by decide)
  · exact ⟨h1, by decide⟩
  · exact absurd q (by decide), P', r', hC, hk⟩
theorem cT_IAS3 (h1 : st 3) (hC : CS h' A σ P' r') (hk : kpC h h' A (nA σ)) : cT st σ A h cdIAS eS h' := ⟨⟨3, Or.inr (Or.inr ⟨rfl, rfl⟩)⟩, fun k q => by
  rcases q with ⟨q, -⟩ | ⟨q, -⟩ | ⟨-, rfl⟩
  · exact absurd q (by decide)
  · exact absurd q (by decide)
  · exact ⟨h1, by decide⟩, P', r', hC, hk⟩
theorem cT_dI : ∀ E h2, cT st σ A h cdI E h2 → E = eI := fun _ _ ⟨⟨_, q⟩, _⟩ => q.1
theorem cT_dA : ∀ E h2, cT st σ A h cdA E h2 → E = eA := fun _ _ ⟨⟨_, q⟩, _⟩ => q.1
theorem cT_dAS : ∀ E h2, cT st σ A h cdAS E h2 → E = eA ∨ E = eS := fun _ _ ⟨⟨_, q⟩, _⟩ => q.imp (fun z => z.1) (fun z => z.1)
theorem cT_dIA : ∀ E h2, cT st σ A h cdIA E h2 → E = eI ∨ E = eA := fun _ _ ⟨⟨_, q⟩, _⟩ => q.imp (fun z => z.1) (fun z => z.1)
theorem cT_dIS : ∀ E h2, cT st σ A h cdIS E h2 → E = eI ∨ E = eS := fun _ _ ⟨⟨_, q⟩, _⟩ => q.imp (fun z => z.1) (fun z => z.1)
theorem cT_dIAS : ∀ E h2, cT st σ A h cdIAS E h2 → E = eI ∨ E = eA ∨ E = eS := fun _ _ ⟨⟨_, q⟩, _⟩ => q.imp (fun z => z.1) (fun q => q.imp (fun z => z.1) (fun z => z.1))
theorem mq_mR {c c' : Prop} {y : Int32} (hR : RM σ u) (hc : c ↔ c') (hy : c → y = val) : ∀ v h', mq B σ u h c y v h' → mR (st1 c') val σ σ B h v h' := by
  rintro v h' ⟨k, z, rfl, q, md', hs', hM, hk⟩
  rcases q with ⟨h1, rfl, rfl⟩ | ⟨h1, rfl⟩
  · exact ⟨0, _, σ, u, md', hs', rfl, Or.inl ⟨rfl, hc.mp h1⟩, Or.inl ⟨rfl, rfl, hy h1⟩, hR, hM, kpN.rf.kB hk⟩
  · exact ⟨1, z, σ, u, md', hs', rfl, Or.inr ⟨rfl, fun q => h1 (hc.mpr q)⟩, Or.inr ⟨by decide, rfl⟩, hR, hM, kpN.rf.kB hk⟩
theorem MS_0 {y : Int32} (h0 : st 0) (hy : y = val) (hM : MS h h' B σ1 0) : mR st val σ σ1 B h (some (.int y)) h' := by
  obtain ⟨u', md', hs', hR, hM2, hk⟩ := hM
  exact ⟨0, y, σ1, u', md', hs', rfl, h0, Or.inl ⟨rfl, rfl, hy⟩, hR, hM2, kpN.rf.kB hk⟩
theorem MS_k {v : Option Value} {k : Int32} (h0 : st k) (hk0 : ¬ k = 0) (hv : anyI v) (hM : MS h h' B σ k) : mR st val σ σ1 B h v h' := by
  obtain ⟨y, rfl⟩ := hv
  obtain ⟨u', md', hs', hR, hM2, hk⟩ := hM
  exact ⟨k, y, σ, u', md', hs', rfl, h0, Or.inr ⟨hk0, rfl⟩, hR, hM2, kpN.rf.kB hk⟩
end Nf
/-- what holds at the head of the law's loop, behind k calls -/
def LI (a b c k : Nat) (h : Hp) : Prop := ∃ (A : Nat → Nat) (σ : Sg) (P : PS) (r : Nat → Int32) (B : Nat → Nat) (x : Int32) (u : Mu) (md hs : Nat → Int32) (o : Nat → Int64), A 0 = a ∧ B 0 = b ∧ CS h A σ P r ∧ MO h B σ x u md hs ∧ RM σ u ∧ Am σ (999 * (k : Int)) ∧ gy σ ≤ 40 * k ∧ h c = some (out1 o) ∧ (∀ i j, i < nA σ → j < 8 → A i ≠ B j) ∧ (∀ i, i < nA σ → A i ≠ c) ∧ ∀ j, j < 8 → B j ≠ c
theorem LI_next {h h1 h2 : Hp} {A A1 B : Nat → Nat} {σ σ' : Sg} {P1 : PS} {r1 : Nat → Int32} {x x2 : Int32} {u u2 : Mu} {md hs md2 hs2 : Nat → Int32} {o o1 : Nat → Int64} {c k : Nat} (hM : MO h B σ x u md hs) (ho : h c = some (out1 o)) (dAB : ∀ i j, i < nA σ → j < 8 → A i ≠ B j) (dAc : ∀ i, i < nA σ → A i ≠ c) (dBc : ∀ j, j < 8 → B j ≠ c)
    (hC1 : CS h1 A1 σ' P1 r1) (ho1 : h1 c = some (out1 o1)) (e0 : A1 0 = A 0) (e1 : ∀ i, i < nA σ' → (∃ j, j < nA σ ∧ A1 i = A j) ∨ h (A1 i) = none) (hR2 : RM σ' u2) (hM2 : MO h2 B σ' x2 u2 md2 hs2) (hk2 : kpN h1 h2 B) (hA : Am σ' (999 * ((k + 1 : Nat) : Int))) (hy : gy σ' ≤ 40 * (k + 1)) : LI (A 0) (B 0) c (k + 1) h2 := by
  have d1 : ∀ i j, i < nA σ' → j < 8 → A1 i ≠ B j := fun i j hi hj q => by
    rcases e1 i hi with ⟨i', hi', e⟩ | e
    · exact dAB i' j hi' hj (e.symm.trans q)
    · obtain ⟨ce, hce⟩ := hM.live hj
      rw [q, hce] at e
      cases e
  have d2 : ∀ i, i < nA σ' → A1 i ≠ c := fun i hi q => by
    rcases e1 i hi with ⟨i', hi', e⟩ | e
    · exact dAc i' hi' (e.symm.trans q)
    · rw [q, ho] at e
      cases e
  refine ⟨A1, σ', P1, r1, B, x2, u2, md2, hs2, o1, e0, rfl, hC1.same (fun i hi => ?_), hM2, hR2, hA, hy, hk2 c _ ho1 (fun j hj q => dBc j hj q.symm), d1, d2, dBc⟩
  obtain ⟨ce, hce⟩ := hC1.live hi
  exact (hk2 _ ce hce (fun j hj => d1 i j hi hj)).trans hce.symm
theorem LI_B {h h1 : Hp} {A B : Nat → Nat} {σ : Sg} {x : Int32} {u : Mu} {md hs : Nat → Int32} {c : Nat} (hM : MO h B σ x u md hs) (dAB : ∀ i j, i < nA σ → j < 8 → A i ≠ B j) (dBc : ∀ j, j < 8 → B j ≠ c) (e2 : ∀ q e, h q = some e → q ≠ c → (∀ i, i < nA σ → q ≠ A i) → h1 q = some e) : MO h1 B σ x u md hs :=
  hM.mv fun j hj => by
    obtain ⟨ce, hce⟩ := hM.live hj
    exact (e2 _ ce hce (dBc j hj) (fun i hi q => dAB i j hi hj q.symm)).trans hce.symm
theorem n6 (k : Nat) : nI (6 * k) + 6 = nI (6 * (k + 1)) := nI_add (6 * k) 6
