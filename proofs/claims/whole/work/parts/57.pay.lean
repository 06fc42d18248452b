/-! ===== TallyWaxModel: pay, what it wants ===== -/
theorem sub_nn {m a : Int32} (hm : ¬ m < 0) (ha : ¬ a < 1) : 0 ≤ m - a ↔ a ≤ m := by
  rw [Int32.lt_iff_toInt_lt] at hm ha
  rw [Int32.le_iff_toInt_le, Int32.le_iff_toInt_le, Int32.toInt_sub]
  have h0 : (0 : Int32).toInt = 0 := by decide
  have h1 : (1 : Int32).toInt = 1 := by decide
  have m1 := Int32.toInt_lt m
  have a1 := Int32.toInt_lt a
  rw [h0] at hm ⊢
  rw [h1] at ha
  rw [Int.bmod_eq_of_le (by omega) (by omega)]
  omega
section Nf
variable {σ : Sg} {u : Mu}
theorem RM.less (hR : RM σ u) {t l : Nat} (ht : t < gT σ) (hl : l < gn σ t) {y : Int32} : RM (sLess σ t l y) (uth u, uha u, ubl u, umn u, upd (uli u) (48 * t + 4 * l + 2) y, uhe u) := by
  refine ⟨hR.1, hR.2.1, hR.2.2.1, fun t' ht' => ?_, hR.2.2.2.2⟩
  have q := hR.2.2.2.1 t' ht'
  have hn12 := (hR.2.2.2.1 t ht).2.2.2.2.1
  unfold sLess sTab
  simp only [gha, gce, gn, gDD, gC, gM, gW, gT, uha, ubl, umn, uli, vu_i] at q hl hn12 ⊢
  refine ⟨q.1, q.2.1, q.2.2.1, q.2.2.2.1, q.2.2.2.2.1, fun j hj => ?_⟩
  have := q.2.2.2.2.2 j hj
  have hj12 := q.2.2.2.2.1
  have k0 : upd u.2.2.2.2.1 (48 * t + 4 * l + 2) y (48 * t' + 4 * j) = u.2.2.2.2.1 (48 * t' + 4 * j) := upd_n (by omega)
  have k1 : upd u.2.2.2.2.1 (48 * t + 4 * l + 2) y (48 * t' + 4 * j + 1) = u.2.2.2.2.1 (48 * t' + 4 * j + 1) := upd_n (by omega)
  have k3 : upd u.2.2.2.2.1 (48 * t + 4 * l + 2) y (48 * t' + 4 * j + 3) = u.2.2.2.2.1 (48 * t' + 4 * j + 3) := upd_n (by omega)
  rw [k0, k1, k3]
  by_cases e : t' = t
  · rw [e] at this ⊢
    rw [vu_s]
    by_cases z : j = l
    · rw [z] at this ⊢
      rw [upd_s, upd_s]
      exact ⟨this.1, this.2.1, rfl, this.2.2.2⟩
    · rw [upd_n (by omega), upd_n z]
      exact this
  · rw [vu_n e, upd_n (by omega)]
    exact this
end Nf
