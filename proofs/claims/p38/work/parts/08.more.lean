/-! ===== more rows: indices and bounds as naturals, upward loops, words of the JDK's own methods ===== -/
theorem tw_oi1 : tw (.instanceMethod objectInit) := ⟨by decide +kernel, by decide +kernel⟩
theorem tw_oi2 : tw (.code objectInit ⟨#[0xb1]⟩ 1 none) := ⟨by decide +kernel, by decide +kernel⟩
theorem tw_mm1 : tw (.static Lib.Math.min.name) := ⟨by decide +kernel, by decide +kernel⟩
theorem tw_mm2 : tw (.initialized "java/lang/Math") := ⟨by decide +kernel, by decide +kernel⟩
theorem tw_mm3 : tw (.code Lib.Math.min.name Lib.Math.min.code 2 (some .int)) := ⟨by decide +kernel, by decide +kernel⟩
theorem tw_arr_0 : tw (.arrayClass .int) := ⟨by decide +kernel, by decide +kernel⟩
theorem tw_arr_1 : tw (.arrayClass .boolean) := ⟨by decide +kernel, by decide +kernel⟩
theorem tw_ovA : Cond.arrayOver (.array .int) ∈ lw_tbl := by decide +kernel
theorem tw_ovB : Cond.arrayOver (.array (.array .int)) ∈ lw_tbl := by decide +kernel
theorem tw_over : Cond.arrayOver (.object "TallyWax$Tablet") ∈ lw_tbl := by decide +kernel
/-- a counting loop: what holds at its end, and at i out of i + 1, holds everywhere -/
theorem lp_up {P : Nat → Prop} (n : Nat) (hs : ∀ i, i ≤ n → (i < n → P (i + 1)) → P i) : ∀ i, i ≤ n → P i := by
  intro i hi
  obtain ⟨k, hk⟩ : ∃ k, k = n - i := ⟨_, rfl⟩
  induction k generalizing i with
  | zero => exact hs i hi (fun q => by omega)
  | succ k ih => exact hs i hi (fun q => ih (i + 1) q (by omega))
section M2
variable {G : Gt} {F : Ft} {Q : State → Prop} {own : String} {cc : ByteArray} {nL : Nat} {ret : Option FieldType} {kc ks pc : Nat} {L : List (Option Value)} {st : List Value} {h : Hp}
theorem V.ialdN {a n j : Nat} {f : Nat → Int32} (hG : GOk G) (hF : Ok G F own cc nL ret) (hd : decode cc pc = .ok (.iaload, 1)) (hc : h a = some (.inl (0, n, .inl f))) (hj : j < n) (hn : n < 2 ^ 31) (kk : V G F Q kc ks (pc + 1) L (.int (f j) :: st) h) : V G F Q kc ks pc L (.int (nI j) :: .ref a :: st) h := by
  have e : (nI j).toNatClampNeg = j := nI_clamp (Nat.lt_trans hj hn)
  exact V.iald hG hF hd hc (vp_in_nI hj hn) (by rw [e]; exact kk)
theorem V.zaldN {a n j : Nat} {f : Nat → Int32} (hG : GOk G) (hF : Ok G F own cc nL ret) (hd : decode cc pc = .ok (.baload, 1)) (hc : h a = some (.inl (1, n, .inl f))) (hj : j < n) (hn : n < 2 ^ 31) (kk : V G F Q kc ks (pc + 1) L (.int (f j) :: st) h) : V G F Q kc ks pc L (.int (nI j) :: .ref a :: st) h := by
  have e : (nI j).toNatClampNeg = j := nI_clamp (Nat.lt_trans hj hn)
  exact V.zald hG hF hd hc (vp_in_nI hj hn) (by rw [e]; exact kk)
theorem V.aaldN {a n j t : Nat} {f : Nat → Option Nat} (hG : GOk G) (hF : Ok G F own cc nL ret) (hd : decode cc pc = .ok (.aaload, 1)) (hc : h a = some (.inl (t, n, .inr (.inr (.inr (.inr f)))))) (hj : j < n) (hn : n < 2 ^ 31) (kk : V G F Q kc ks (pc + 1) L (va_rf (f j) :: st) h) (ht : 2 ≤ t ∧ t < 5 := by decide) : V G F Q kc ks pc L (.int (nI j) :: .ref a :: st) h := by
  have e : (nI j).toNatClampNeg = j := nI_clamp (Nat.lt_trans hj hn)
  exact V.aald hG hF hd hc (vp_in_nI hj hn) (by rw [e]; exact kk) ht
theorem V.iastN {a n j : Nat} {f : Nat → Int32} {x : Int32} (hG : GOk G) (hF : Ok G F own cc nL ret) (hd : decode cc pc = .ok (.iastore, 1)) (hc : h a = some (.inl (0, n, .inl f))) (hj : j < n) (hn : n < 2 ^ 31) (kk : V G F Q kc ks (pc + 1) L st (hset h a (.inl (0, n, .inl (upd f j x))))) : V G F Q kc ks pc L (.int x :: .int (nI j) :: .ref a :: st) h := by
  have e : (nI j).toNatClampNeg = j := nI_clamp (Nat.lt_trans hj hn)
  exact V.iast hG hF hd hc (vp_in_nI hj hn) (by rw [e]; exact kk)
theorem V.zastN {a n j : Nat} {f : Nat → Int32} {x : Int32} (hG : GOk G) (hF : Ok G F own cc nL ret) (hd : decode cc pc = .ok (.bastore, 1)) (hc : h a = some (.inl (1, n, .inl f))) (hj : j < n) (hn : n < 2 ^ 31) (hx : narrow .boolean (.int x) = .int x) (kk : V G F Q kc ks (pc + 1) L st (hset h a (.inl (1, n, .inl (upd f j x))))) : V G F Q kc ks pc L (.int x :: .int (nI j) :: .ref a :: st) h := by
  have e : (nI j).toNatClampNeg = j := nI_clamp (Nat.lt_trans hj hn)
  exact V.zast hG hF hd hc (vp_in_nI hj hn) hx (by rw [e]; exact kk)
theorem V.icmpN_eq {i j : Nat} (hF : Ok G F own cc nL ret) {off : Int} {tgt : Nat} (hd : decode cc pc = .ok (.if_icmp .eq off, 3)) (ht : (pc : Int) + off = (tgt : Int)) (hi : i < 2 ^ 31) (hj : j < 2 ^ 31) (kt : i = j → V G F Q kc ks tgt L st h) (kf : ¬ i = j → V G F Q kc ks (pc + 3) L st h) : V G F Q kc ks pc L (.int (nI j) :: .int (nI i) :: st) h :=
  V.icmp_eq hF hd ht (fun q => kt ((nI_eq hi hj).mp q)) (fun q => kf (fun z => q ((nI_eq hi hj).mpr z)))
theorem V.icmpN_ne {i j : Nat} (hF : Ok G F own cc nL ret) {off : Int} {tgt : Nat} (hd : decode cc pc = .ok (.if_icmp .ne off, 3)) (ht : (pc : Int) + off = (tgt : Int)) (hi : i < 2 ^ 31) (hj : j < 2 ^ 31) (kt : ¬ i = j → V G F Q kc ks tgt L st h) (kf : i = j → V G F Q kc ks (pc + 3) L st h) : V G F Q kc ks pc L (.int (nI j) :: .int (nI i) :: st) h :=
  V.icmp_ne hF hd ht (fun q => kt (fun z => q ((nI_eq hi hj).mpr z))) (fun q => kf ((nI_eq hi hj).mp q))
theorem V.icmpN_lt {i j : Nat} (hF : Ok G F own cc nL ret) {off : Int} {tgt : Nat} (hd : decode cc pc = .ok (.if_icmp .lt off, 3)) (ht : (pc : Int) + off = (tgt : Int)) (hi : i < 2 ^ 31) (hj : j < 2 ^ 31) (kt : i < j → V G F Q kc ks tgt L st h) (kf : j ≤ i → V G F Q kc ks (pc + 3) L st h) : V G F Q kc ks pc L (.int (nI j) :: .int (nI i) :: st) h :=
  V.icmp_lt hF hd ht (fun q => kt ((nI_ltI hi hj).mp q)) (fun q => kf (Nat.not_lt.mp fun z => q ((nI_ltI hi hj).mpr z)))
theorem V.icmpN_ge {i j : Nat} (hF : Ok G F own cc nL ret) {off : Int} {tgt : Nat} (hd : decode cc pc = .ok (.if_icmp .ge off, 3)) (ht : (pc : Int) + off = (tgt : Int)) (hi : i < 2 ^ 31) (hj : j < 2 ^ 31) (kt : j ≤ i → V G F Q kc ks tgt L st h) (kf : i < j → V G F Q kc ks (pc + 3) L st h) : V G F Q kc ks pc L (.int (nI j) :: .int (nI i) :: st) h :=
  V.icmp_ge hF hd ht (fun q => kt ((nI_leI hj hi).mp q)) (fun q => kf (Nat.not_le.mp fun z => q ((nI_leI hj hi).mpr z)))
theorem V.icmpN_gt {i j : Nat} (hF : Ok G F own cc nL ret) {off : Int} {tgt : Nat} (hd : decode cc pc = .ok (.if_icmp .gt off, 3)) (ht : (pc : Int) + off = (tgt : Int)) (hi : i < 2 ^ 31) (hj : j < 2 ^ 31) (kt : j < i → V G F Q kc ks tgt L st h) (kf : i ≤ j → V G F Q kc ks (pc + 3) L st h) : V G F Q kc ks pc L (.int (nI j) :: .int (nI i) :: st) h :=
  V.icmp_gt hF hd ht (fun q => kt ((nI_ltI hj hi).mp q)) (fun q => kf (Nat.not_lt.mp fun z => q ((nI_ltI hj hi).mpr z)))
theorem V.icmpN_le {i j : Nat} (hF : Ok G F own cc nL ret) {off : Int} {tgt : Nat} (hd : decode cc pc = .ok (.if_icmp .le off, 3)) (ht : (pc : Int) + off = (tgt : Int)) (hi : i < 2 ^ 31) (hj : j < 2 ^ 31) (kt : i ≤ j → V G F Q kc ks tgt L st h) (kf : j < i → V G F Q kc ks (pc + 3) L st h) : V G F Q kc ks pc L (.int (nI j) :: .int (nI i) :: st) h :=
  V.icmp_le hF hd ht (fun q => kt ((nI_leI hi hj).mp q)) (fun q => kf (Nat.not_le.mp fun z => q ((nI_leI hi hj).mpr z)))
theorem V.hp {h' : Hp} (e : h' = h) (k : V G F Q kc ks pc L st h') : V G F Q kc ks pc L st h := e ▸ k
end M2
theorem ne_new {h : Hp} {a q : Nat} {c : va_E} (h1 : h a = some c) (h2 : h q = none) : a ≠ q := by
  rintro rfl
  rw [h1] at h2
  cases h2
