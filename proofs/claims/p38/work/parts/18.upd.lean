/-! ===== the state, changed in one place ===== -/
def sTab (σ : Sg) (t : Nat) (ha ce : Int32) (n : Nat) (D C M W : Nat → Int32) : Sg := (gth σ, gT σ, va_up (gha σ) t ha, va_up (gce σ) t ce, va_up (gn σ) t n, (va_up (gDD σ) t D, va_up (gC σ) t C, va_up (gM σ) t M, va_up (gW σ) t W), ghe σ, gy σ, gme σ, gde σ)
def sYmd (σ : Sg) (y : Nat) (me de : Int32) : Sg := (gth σ, gT σ, gha σ, gce σ, gn σ, (gDD σ, gC σ, gM σ, gW σ), ghe σ, y, me, de)
def sTh (σ : Sg) (th : Nat → Int32) : Sg := (th, gT σ, gha σ, gce σ, gn σ, (gDD σ, gC σ, gM σ, gW σ), ghe σ, gy σ, gme σ, gde σ)
def sHe (σ : Sg) (he : Nat → Int32) : Sg := (gth σ, gT σ, gha σ, gce σ, gn σ, (gDD σ, gC σ, gM σ, gW σ), he, gy σ, gme σ, gde σ)
theorem vu_s {α : Type} {f : Nat → α} {t : Nat} {v : α} : va_up f t v t = v := if_pos rfl
theorem vu_n {α : Type} {f : Nat → α} {t j : Nat} {v : α} (h : j ≠ t) : va_up f t v j = f j := if_neg h
theorem vu_i {α : Type} {f : Nat → α} {t : Nat} : va_up f t (f t) = f := by
  funext j
  unfold va_up
  by_cases h : j = t
  · rw [if_pos h, h]
  · rw [if_neg h]
section Cu
variable {h h' : Hp} {A : Nat → Nat} {σ : Sg} {P P' : PS} {r r' : Nat → Int32}
/-- the cells that stay -/
theorem CS.tb (hC : CS h A σ P r) {t : Nat} (ht : t < gT σ) (e : ∀ i, 12 + 6 * t ≤ i → i < 18 + 6 * t → h' (A i) = h (A i)) : TBc h' A σ t := by
  obtain ⟨t1, t2, t3⟩ := hC.2.2.2.2.2.2.2.2 t ht
  refine ⟨(e _ (by omega) (by omega)).trans t1, t2.mv (fun q hq => ?_), t3⟩
  simp only [List.mem_cons, List.not_mem_nil, or_false] at hq
  rcases hq with rfl | rfl | rfl | rfl | rfl <;> exact e _ (by omega) (by omega)
theorem SMc.mv (hS : SMc h (A 4) (A 6) (A 7) (A 8) (A 9) (A 10) (A 11) P) (e : ∀ i, 4 ≤ i → i ≤ 11 → i ≠ 5 → h' (A i) = h (A i)) : SMc h' (A 4) (A 6) (A 7) (A 8) (A 9) (A 10) (A 11) P := by
  obtain ⟨h1, h2, h3⟩ := hS
  refine ⟨(e 4 (by omega) (by omega) (by omega)).trans h1, (e 6 (by omega) (by omega) (by omega)).trans h2, h3.mv (fun q hq => ?_)⟩
  simp only [List.mem_cons, List.not_mem_nil, or_false] at hq
  rcases hq with rfl | rfl | rfl | rfl | rfl <;> exact e _ (by omega) (by omega) (by omega)
theorem CS.re (hC : CS h A σ P r) (h5 : h' (A 5) = some (.inl (0, 8, .inl r'))) (hk : ∀ q, q ≠ A 5 → h' q = h q) : CS h' A σ P r' := by
  have ne : ∀ i, i < 12 + 6 * gT σ → i ≠ 5 → h' (A i) = h (A i) := fun i hi h => hk _ (hC.1.ne hi (by omega) h)
  obtain ⟨hI, hT8, hA, h1, h2, h3, h4, -, h6⟩ := id hC
  exact ⟨hI, hT8, (ne 0 (by omega) (by omega)).trans hA, (ne 1 (by omega) (by omega)).trans h1, (ne 2 (by omega) (by omega)).trans h2, (ne 3 (by omega) (by omega)).trans h3, SMc.mv h4 (fun i _ g2 g3 => ne i (by omega) g3), h5, fun t ht => hC.tb ht (fun i g1 g2 => ne i (by omega) (by omega))⟩
theorem CS.sm (hC : CS h A σ P r) (h4 : SMc h' (A 4) (A 6) (A 7) (A 8) (A 9) (A 10) (A 11) P') (hk : kp6 h h' (A 6) (A 7) (A 8) (A 9) (A 10) (A 11)) : CS h' A σ P' r := by
  have ne : ∀ i, i < 12 + 6 * gT σ → i < 6 ∨ 11 < i → h' (A i) = h (A i) := fun i hi h => hk _ (hC.1.ne hi (by omega) (by omega)) (hC.1.ne hi (by omega) (by omega)) (hC.1.ne hi (by omega) (by omega)) (hC.1.ne hi (by omega) (by omega)) (hC.1.ne hi (by omega) (by omega)) (hC.1.ne hi (by omega) (by omega))
  obtain ⟨hI, hT8, hA, h1, h2, h3, -, h5, h6⟩ := id hC
  exact ⟨hI, hT8, (ne 0 (by omega) (by omega)).trans hA, (ne 1 (by omega) (by omega)).trans h1, (ne 2 (by omega) (by omega)).trans h2, (ne 3 (by omega) (by omega)).trans h3, h4, (ne 5 (by omega) (by omega)).trans h5, fun t ht => hC.tb ht (fun i g1 g2 => ne i (by omega) (by omega))⟩
theorem CS.tab (hC : CS h A σ P r) {t : Nat} (ht : t < gT σ) {ha ce : Int32} {n : Nat} {D C M W : Nat → Int32} (g1 : h' (A (12 + 6 * t)) = some (.inr (2, [.int ha, .int ce, .ref (A (13 + 6 * t))]))) (g2 : LLc h' (A (13 + 6 * t)) (A (14 + 6 * t)) (A (15 + 6 * t)) (A (16 + 6 * t)) (A (17 + 6 * t)) D C M W n) (g3 : n ≤ 12)
    (hk : ∀ q, (∀ i, 12 + 6 * t ≤ i → i < 18 + 6 * t → q ≠ A i) → h' q = h q) : CS h' A (sTab σ t ha ce n D C M W) P r := by
  have ne : ∀ i, i < 12 + 6 * gT σ → i < 12 + 6 * t ∨ 18 + 6 * t ≤ i → h' (A i) = h (A i) := fun i hi h => hk _ (fun j e1 e2 => hC.1.ne hi (by omega) (by omega))
  obtain ⟨hI, hT8, hA, h1, h2, h3, h4, h5, h6⟩ := id hC
  refine ⟨hI, hT8, (ne 0 (by omega) (by omega)).trans hA, (ne 1 (by omega) (by omega)).trans h1, (ne 2 (by omega) (by omega)).trans h2, (ne 3 (by omega) (by omega)).trans h3, SMc.mv h4 (fun i _ g2 _ => ne i (by omega) (by omega)), (ne 5 (by omega) (by omega)).trans h5, fun t' ht' => ?_⟩
  by_cases e : t' = t
  · subst e
    unfold TBc sTab
    simp only [gha, gce, gn, gDD, gC, gM, gW, vu_s]
    exact ⟨g1, g2, g3⟩
  · have := hC.tb (h' := h') ht' (fun i q1 q2 => ne i (by have : t' < gT σ := ht'; omega) (by omega))
    unfold TBc sTab
    simp only [gha, gce, gn, gDD, gC, gM, gW, vu_n e]
    exact this
theorem CS.ymd (hC : CS h A σ P r) {y : Nat} {me de : Int32} (hA : h' (A 0) = some (.inr (3, [.ref (A 1), .ref (A 2), .ref (A 3), .ref (A 4), .ref (A 5), .int (nI (gT σ)), .int (nI y), .int me, .int de]))) (hk : ∀ q, q ≠ A 0 → h' q = h q) : CS h' A (sYmd σ y me de) P r := by
  have ne : ∀ i, i < 12 + 6 * gT σ → i ≠ 0 → h' (A i) = h (A i) := fun i hi h => hk _ (hC.1.ne hi (by omega) h)
  obtain ⟨hI, hT8, -, h1, h2, h3, h4, h5, h6⟩ := id hC
  exact ⟨hI, hT8, hA, (ne 1 (by omega) (by omega)).trans h1, (ne 2 (by omega) (by omega)).trans h2, (ne 3 (by omega) (by omega)).trans h3, SMc.mv h4 (fun i _ _ _ => ne i (by omega) (by omega)), (ne 5 (by omega) (by omega)).trans h5, fun t ht => hC.tb (σ := σ) ht (fun i g1 g2 => ne i (by have : t < gT σ := ht; omega) (by omega))⟩
theorem CS.th (hC : CS h A σ P r) {th : Nat → Int32} (h1 : h' (A 1) = some (.inl (1, 8, .inl th))) (hk : ∀ q, q ≠ A 1 → h' q = h q) : CS h' A (sTh σ th) P r := by
  have ne : ∀ i, i < 12 + 6 * gT σ → i ≠ 1 → h' (A i) = h (A i) := fun i hi h => hk _ (hC.1.ne hi (by omega) h)
  obtain ⟨hI, hT8, hA, -, h2, h3, h4, h5, h6⟩ := id hC
  exact ⟨hI, hT8, (ne 0 (by omega) (by omega)).trans hA, h1, (ne 2 (by omega) (by omega)).trans h2, (ne 3 (by omega) (by omega)).trans h3, SMc.mv h4 (fun i _ _ _ => ne i (by omega) (by omega)), (ne 5 (by omega) (by omega)).trans h5, fun t ht => hC.tb (σ := σ) ht (fun i g1 g2 => ne i (by have : t < gT σ := ht; omega) (by omega))⟩
theorem CS.he (hC : CS h A σ P r) {he : Nat → Int32} (h3 : h' (A 3) = some (.inl (0, 10, .inl he))) (hk : ∀ q, q ≠ A 3 → h' q = h q) : CS h' A (sHe σ he) P r := by
  have ne : ∀ i, i < 12 + 6 * gT σ → i ≠ 3 → h' (A i) = h (A i) := fun i hi h => hk _ (hC.1.ne hi (by omega) h)
  obtain ⟨hI, hT8, hA, h1, h2, -, h4, h5, h6⟩ := id hC
  exact ⟨hI, hT8, (ne 0 (by omega) (by omega)).trans hA, (ne 1 (by omega) (by omega)).trans h1, (ne 2 (by omega) (by omega)).trans h2, h3, SMc.mv h4 (fun i _ _ _ => ne i (by omega) (by omega)), (ne 5 (by omega) (by omega)).trans h5, fun t ht => hC.tb (σ := σ) ht (fun i g1 g2 => ne i (by have : t < gT σ := ht; omega) (by omega))⟩
/-- nothing but the class's own cells is touched -/
def kpC (h h' : Hp) (A : Nat → Nat) (K : Nat) : Prop := ∀ q, (∀ i, i < K → q ≠ A i) → h' q = h q
theorem kpC.rf {K : Nat} : kpC h h A K := fun _ _ => rfl
theorem kpC.tr {h1 h2 : Hp} {K : Nat} (p : kpC h h1 A K) (q : kpC h1 h2 A K) : kpC h h2 A K := fun x e => (q x e).trans (p x e)
theorem kpC.one {K i : Nat} (hi : i < K) (hk : ∀ q, q ≠ A i → h' q = h q) : kpC h h' A K := fun q e => hk q (e i hi)
theorem kpC.k6 {K : Nat} (hK : 12 ≤ K) (hk : kp6 h h' (A 6) (A 7) (A 8) (A 9) (A 10) (A 11)) : kpC h h' A K := fun q e => hk q (e _ (by omega)) (e _ (by omega)) (e _ (by omega)) (e _ (by omega)) (e _ (by omega)) (e _ (by omega))
end Cu
