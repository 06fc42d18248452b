/-! ===== TallyWaxModel: a row laid anew ===== -/
section Nh
variable {σ : Sg} {u : Mu}
abbrev rowsOK (D C W : Nat → Int32) (n : Nat) : Prop := ∀ j, j < n → inP (D j) ∧ inP (C j) ∧ inP (W j) ∧ D j ≠ C j
theorem RM.lay (hR : RM σ u) {t n : Nat} (ht : t < gT σ) (hn : n ≤ 12) {md D C M W : Nat → Int32} (hr : ∀ j, j < n → md (4 * j) = D j ∧ md (4 * j + 1) = C j ∧ md (4 * j + 2) = M j ∧ md (4 * j + 3) = W j) (ho : rowsOK D C W n) :
    RM (sTab σ t (gha σ t) (gce σ t) n D C M W) (uth u, uha u, ubl u, upd (umn u) t (nI n), va_cpy md (uli u) 0 (48 * t + 4 * 0) (4 * n), uhe u) := by
  refine ⟨hR.1, hR.2.1, hR.2.2.1, fun t' ht' => ?_, fun t' h1 h2 => ⟨by
    have h1 : gT σ ≤ t' := h1
    show upd (umn u) t _ t' = 0
    rw [upd_n (by omega)]
    exact (hR.2.2.2.2 t' h1 h2).1, (hR.2.2.2.2 t' h1 h2).2⟩⟩
  have q := hR.2.2.2.1 t' ht'
  unfold sTab
  simp only [gha, gce, gn, gDD, gC, gM, gW, gT, uha, ubl, umn, uli, vu_i] at q ⊢
  by_cases e : t' = t
  · rw [e] at q ⊢
    simp only [vu_s, upd_s]
    refine ⟨q.1, q.2.1, q.2.2.1, trivial, hn, fun j hj => ?_⟩
    obtain ⟨r0, r1, r2, r3⟩ := hr j hj
    obtain ⟨o1, o2, o3, o4⟩ := ho j hj
    have ci : ∀ i, i < 4 → va_cpy md u.2.2.2.2.1 0 (48 * t + 4 * 0) (4 * n) (48 * t + 4 * j + i) = md (4 * j + i) := fun i hi => by
      rw [pk_cpy_in (by omega) (by omega)]
      exact congrArg md (by omega)
    have c0 := ci 0 (by decide)
    simp only [Nat.add_zero] at c0
    refine ⟨c0.trans r0, (ci 1 (by decide)).trans r1, (ci 2 (by decide)).trans r2, (ci 3 (by decide)).trans r3, o1, o2, o3, o4⟩
  · simp only [vu_n e, upd_n e]
    refine ⟨q.1, q.2.1, q.2.2.1, q.2.2.2.1, q.2.2.2.2.1, fun j hj => ?_⟩
    have := q.2.2.2.2.2 j hj
    have hl12 := q.2.2.2.2.1
    rw [pk_cpy_out (by omega), pk_cpy_out (by omega), pk_cpy_out (by omega), pk_cpy_out (by omega)]
    exact this
end Nh
