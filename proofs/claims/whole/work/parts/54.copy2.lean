/-! ===== the words of System.arraycopy; taking a line out of the model's row ===== -/
theorem tw_ac1 : tw (.methodLink "TallyWaxModel" 54 arraycopyName) := tw_692
theorem tw_ac2 : tw (.native arraycopyName) := ⟨by decide +kernel, by decide +kernel⟩
theorem tw_ac3 : tw (.static arraycopyName) := ⟨by decide +kernel, by decide +kernel⟩
theorem tw_ac4 : tw (.initialized "java/lang/System") := ⟨by decide +kernel, by decide +kernel⟩
section Nc
variable {h : Hp} {B : Nat → Nat} {σ : Sg} {u : Mu}
theorem RM.take (hR : RM σ u) {t l : Nat} (ht : t < gT σ) (hl : l < gn σ t) :
    RM (sTake σ t l) (uth u, uha u, ubl u, upd (umn u) t (nI (gn σ t - 1)), va_cpy (uli u) (uli u) (48 * t + 4 * (l + 1)) (48 * t + 4 * l) (4 * (gn σ t - 1 - l)), uhe u) := by
  refine ⟨hR.1, hR.2.1, hR.2.2.1, fun t' ht' => ?_, fun t' h1 h2 => ⟨by
    have h1 : gT σ ≤ t' := h1
    show upd (umn u) t _ t' = 0
    rw [upd_n (by omega)]
    exact (hR.2.2.2.2 t' h1 h2).1, (hR.2.2.2.2 t' h1 h2).2⟩⟩
  have q := hR.2.2.2.1 t' ht'
  unfold sTake sTab
  simp only [gha, gce, gn, gDD, gC, gM, gW, gT, uha, ubl, umn, uli, vu_i] at q hl ⊢
  by_cases e : t' = t
  · rw [e] at q ⊢
    simp only [vu_s, upd_s]
    refine ⟨q.1, q.2.1, q.2.2.1, trivial, by omega, fun j hj => ?_⟩
    by_cases z : l ≤ j
    · have := q.2.2.2.2.2 (j + 1) (by omega)
      have ci : ∀ i, i < 4 → va_cpy u.2.2.2.2.1 u.2.2.2.2.1 (48 * t + 4 * (l + 1)) (48 * t + 4 * l) (4 * (σ.2.2.2.2.1 t - 1 - l)) (48 * t + 4 * j + i) = u.2.2.2.2.1 (48 * t + 4 * (j + 1) + i) := fun i hi => by
        rw [pk_cpy_in (by omega) (by omega)]
        exact congrArg u.2.2.2.2.1 (by omega)
      have s : ∀ f : Nat → Int32, shk l (σ.2.2.2.2.1 t - 1 - l) f j = f (j + 1) := fun f => if_pos ⟨z, by omega⟩
      have c0 := ci 0 (by decide)
      simp only [Nat.add_zero] at c0
      rw [s, s, s, s, c0, ci 1 (by decide), ci 2 (by decide), ci 3 (by decide)]
      exact this
    · have := q.2.2.2.2.2 j (by omega)
      have s : ∀ f : Nat → Int32, shk l (σ.2.2.2.2.1 t - 1 - l) f j = f j := fun f => if_neg (fun y => z y.1)
      rw [s, s, s, s, pk_cpy_out (by omega), pk_cpy_out (by omega), pk_cpy_out (by omega), pk_cpy_out (by omega)]
      exact this
  · simp only [vu_n e, upd_n e]
    refine ⟨q.1, q.2.1, q.2.2.1, q.2.2.2.1, q.2.2.2.2.1, fun j hj => ?_⟩
    have := q.2.2.2.2.2 j hj
    have hl12 := q.2.2.2.2.1
    have hn12 := (hR.2.2.2.1 t ht).2.2.2.2.1
    simp only [gn] at hn12
    rw [pk_cpy_out (by omega), pk_cpy_out (by omega), pk_cpy_out (by omega), pk_cpy_out (by omega)]
    exact this
end Nc
