/-! ===== what the start gives ===== -/
theorem inst_ok {ci : Nat} {C : String} {T : u_T} {N : Nat} (hc : vwCl[ci]? = some (C, T, N)) : Cond.instantiable C N ∈ lw_tbl := by
  match ci, hc with
  | 0, hc => cases hc; decide +kernel
  | 1, hc => cases hc; decide +kernel
  | 2, hc => cases hc; decide +kernel
  | 3, hc => cases hc; decide +kernel
  | 4, hc => cases hc; decide +kernel
  | n + 5, hc => simp at hc
theorem arr_p {s : State} {a : Array Value} {ty : FieldType} (h : (Cond.arrayClass ty).before a s = true) (hr : ∀ cA, s.vm.findClass ("[" ++ ty.toString) = some cA → va_RA s cA ty) : ∃ cA, ArrOfT s cA ty ∧ va_RA s cA ty := by
  obtain ⟨c, k, comp, h1, h2, h3⟩ := Cond.arrayClass_spec h
  exact ⟨c, fun n z => ⟨(fun k h => by cases h), k, h2, comp, h3⟩, hr c h1⟩
theorem arr_ok {s : State} {a : Array Value} (hts : ∀ w ∈ lw_tbl, w.before a s = true) : ∀ k, ∃ cA, ArrOfT s cA (gTy k) ∧ va_RA s cA (gTy k)
  | 0 => arr_p (hts _ tw_arr_0.1) (fun _ h => h)
  | 1 => arr_p (hts _ tw_arr_1.1) (fun _ h => h)
  | 2 => by
    obtain ⟨comp, c, k, h1, -, h3, h4, h5⟩ := arrayOverA_spec (hts _ tw_ovA)
    exact ⟨c, fun n z => ⟨(fun k h => by cases h), k, h3, comp, h4⟩, h5⟩
  | 3 => by
    obtain ⟨comp, c, k, h1, -, h3, h4, h5⟩ := Cond.arrayOver_spec (hts _ tw_over)
    exact ⟨c, fun n z => ⟨(fun k h => by cases h), k, h3, comp, h4⟩, k, comp, h3, h4, h1, h5⟩
  | n + 4 => by
    obtain ⟨comp, c, k, h1, -, h3, h4, h5⟩ := arrayOverA_spec (hts _ tw_ovB)
    exact ⟨c, fun n z => ⟨(fun k h => by cases h), k, h3, comp, h4⟩, h5⟩
theorem gok_of {s : State} {l : Launch} {a : Array Value} (hl : l.flags = flags0) (hts : ∀ w ∈ lw_tbl, w.before a s = true) (r1 : (Cond.isRef (.static Bundle.tN "UNASSIGNED_STACK" Bundle.steD)).before a s = true) (r2 : (Cond.isRef (.static Bundle.tN "SUPPRESSED_SENTINEL" Bundle.listD)).before a s = true) : ∃ (dC : Nat → ClassId) (dI : Nat → Nat → Nat) (dA : Nat → ClassId), GOk (l, s, a, dC, dI, dA) := by
  have hK : ∀ ci : Nat, ∃ (cC : ClassId) (iS : Nat → Nat), ∀ q : vw_C, vwCl[ci]? = some q → u_Kn s q.1 q.2.1 q.2.2 cC iS := fun ci => by
    cases hq : vwCl[ci]? with
    | none => exact ⟨0, fun _ => 0, fun q h => by cases h⟩
    | some q =>
      obtain ⟨C, T, N⟩ := q
      obtain ⟨cC, iS, h⟩ := u_known (C := C) (T := T) (N := N) (n := N) hts (fun w hw => ((cls_ok hq).1 w hw).1) (hts _ (inst_ok hq))
      exact ⟨cC, iS, fun q h9 => by cases h9; exact h⟩
  have hA := arr_ok hts
  have hF : ∀ x : Nat, x < s.heap.size → ¬ s.heap.size ≤ x := fun x h => Nat.not_le.mpr h
  refine ⟨fun ci => Classical.choose (hK ci), fun ci => Classical.choose (Classical.choose_spec (hK ci)), fun k => Classical.choose (hA k), ?_, hts, ⟨fun ci q hq => Classical.choose_spec (Classical.choose_spec (hK ci)) q hq, fun k q hq => ?_⟩, vx_Zqof (hts _ (by decide +kernel)) (hts _ (by decide +kernel)) r1 hF, vx_Zqof (hts _ (by decide +kernel)) (hts _ (by decide +kernel)) r2 hF, fun own k tx hw => ?_⟩
  · show (!l.flags.contains noTraceFlag) = false
    rw [hl]
    decide +kernel
  · match k, hq with
    | 0, hq => cases hq; exact Classical.choose_spec (hA 0)
    | 1, hq => cases hq; exact Classical.choose_spec (hA 1)
    | 2, hq => cases hq; exact Classical.choose_spec (hA 2)
    | 3, hq => cases hq; exact Classical.choose_spec (hA 3)
    | 4, hq => cases hq; exact Classical.choose_spec (hA 4)
    | n + 5, hq => simp [gTys] at hq
  · have h := hts _ hw
    cases hc : s.vm.findClass own with
    | none =>
      exfalso
      simp [Cond.before, Cond.holds, Cond.value, State.names, State.poolOf?, hc] at h
    | some cur =>
      obtain ⟨_, _, _, sa, _, _, _, _, _, he⟩ := Cond.stringRef_spec hc h
      exact ⟨sa, vk_R.of h he⟩
