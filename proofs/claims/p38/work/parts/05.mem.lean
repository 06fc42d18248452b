section M1
variable {G : Gt} {F : Ft} {Q : State → Prop} {own : String} {cc : ByteArray} {nL : Nat} {ret : Option FieldType} {kc ks pc : Nat} {L : List (Option Value)} {st : List Value} {h : Hp}
/-- a pure stretch, by computation -/
theorem V.run (hF : Ok G F own cc nL ret) (seg : List (Instr × Nat × Value)) {pc' : Nat} {L' : List (Option Value)} {st' : List Value} (hs : okseg cc pc seg = true) (hp : prun nL seg pc L st = some (pc', L', st')) (k : V G F Q kc ks pc' L' st' h) : V G F Q kc ks pc L st h := by
  induction seg generalizing pc L st with
  | nil =>
    simp only [prun, Option.some.injEq, Prod.mk.injEq] at hp
    obtain ⟨rfl, rfl, rfl⟩ := hp
    exact k
  | cons x r ih =>
    obtain ⟨i, len, v⟩ := x
    simp only [okseg, Bool.and_eq_true, decide_eq_true_eq] at hs
    obtain ⟨hd, hc, hn, hr⟩ := hs
    simp only [prun] at hp
    split at hp
    · next L1 st1 he => exact V.step1 hF hd hc hn he (ih hr hp)
    · cases hp
theorem cls_ok {ci : Nat} {C : String} {T : u_T} {N : Nat} (hc : vwCl[ci]? = some (C, T, N)) : (∀ w ∈ u_ws C T N, w ∈ lw_tbl ∧ kw w = true) ∧ (∃ ty0 : Nat → FieldType, ∀ k, k < N → parseFieldDescriptor (T k).2.2.1 = some (ty0 k)) ∧ (∀ a, a < N → ∀ b, b < N → a ≠ b → (T a).2.1 ≠ (T b).2.1) := by
  match ci, hc with
  | 0, hc => cases hc; exact ⟨by decide +kernel, ⟨_, tyX0_ok⟩, nmX0⟩
  | 1, hc => cases hc; exact ⟨by decide +kernel, ⟨_, tyX1_ok⟩, nmX1⟩
  | 2, hc => cases hc; exact ⟨by decide +kernel, ⟨_, tyX2_ok⟩, nmX2⟩
  | 3, hc => cases hc; exact ⟨by decide +kernel, ⟨_, tyX3_ok⟩, nmX3⟩
  | 4, hc => cases hc; exact ⟨by decide +kernel, ⟨_, tyX4_ok⟩, nmX4⟩
  | n + 5, hc => simp at hc
/-- the pool's entry ix of 'own' is the field k of class ci (its own name or a nest mate's) -/
def lkF (own : String) (ix ci k : Nat) : Prop := ∃ (C : String) (T : u_T) (N : Nat), vwCl[ci]? = some (C, T, N) ∧ k < N ∧ (Cond.fieldLink own ix (T k).1 (T k).2.1 (T k).2.2.1 ∈ lw_tbl ∨ ∃ host, Cond.fieldLinkNest own ix (T k).1 (T k).2.1 (T k).2.2.1 host ∈ lw_tbl)
def lkFo (own : String) (ix ci k : Nat) : Prop := ∃ (C : String) (T : u_T) (N : Nat), vwCl[ci]? = some (C, T, N) ∧ k < N ∧ Cond.fieldLink own ix (T k).1 (T k).2.1 (T k).2.2.1 ∈ lw_tbl
theorem V.getf (hG : GOk G) (hF : Ok G F own cc nL ret) {ix ci k a : Nat} {vs : List Value} {v : Value} (hl : lkF own ix ci k) (hd : decode cc pc = .ok (.getfield ix, 3)) (hc : h a = some (.inr (ci, vs))) (hv : vs[k]? = some v) (kk : V G F Q kc ks (pc + 3) L (v :: st) h) : V G F Q kc ks pc L (.ref a :: st) h := by
  intro H locs ls cells slots hR hS hL hz h1 h2
  have hK := hF.K hG
  obtain ⟨hx, hb, hml, hr, hown, hlk, hW⟩ := id hF
  obtain ⟨C, T, N, hcl, hk, hlnk⟩ := hl
  have hts : ∀ w ∈ u_ws C T N, w.before (fA F) (fS F) = true := fun w hw => hF.wd hG ((cls_ok hcl).1 w hw).1 ((cls_ok hcl).1 w hw).2
  rcases hlnk with hlnk | ⟨host, hlnk⟩
  · exact va_get hx hb hts (fun _ h => h) hown hK (hR.one hc) 0 rfl hcl k hk (hF.wd hG hlnk rfl) (fun _ h => h) hv hd (kk H locs ls cells slots hR hS hL hz h1 h2)
  · exact va_getN hx hb hts (fun _ h => h) hown hK (hR.one hc) 0 rfl hcl k hk (hF.wd hG hlnk rfl) (fun _ h => h) hv hd (kk H locs ls cells slots hR hS hL hz h1 h2)
/-- a field of an int or boolean, or a reference, that is not final -/
theorem V.putf (hG : GOk G) (hF : Ok G F own cc nL ret) {ix ci k a : Nat} {vs : List Value} {v : Value} (hl : lkF own ix ci k) (hd : decode cc pc = .ok (.putfield ix, 3)) (hc : h a = some (.inr (ci, vs)))
    (hty : ∀ C T N, vwCl[ci]? = some (C, T, N) → (T k).2.2.2 = false ∧ ∃ ty, parseFieldDescriptor (T k).2.2.1 = some ty ∧ narrow ty v = v ∧ fits ty v = true) (hlen : k < vs.length)
    (kk : V G F Q kc ks (pc + 3) L st (hset h a (.inr (ci, vs.set k v)))) : V G F Q kc ks pc L (v :: .ref a :: st) h := by
  intro H locs ls cells slots hR hS hL hz h1 h2
  have hK := hF.K hG
  obtain ⟨hx, hb, hml, hr, hown, hlk, hW⟩ := id hF
  obtain ⟨C, T, N, hcl, hk, hlnk⟩ := hl
  obtain ⟨c1, ⟨ty0, c2⟩, c3⟩ := cls_ok hcl
  have hts : ∀ w ∈ u_ws C T N, w.before (fA F) (fS F) = true := fun w hw => hF.wd hG (c1 w hw).1 (c1 w hw).2
  obtain ⟨hfin, ty, hp, hn, hfit⟩ := hty C T N hcl
  have hap := va_apart (own := own) hts (fun _ h => h) ty0 c2 c3 hK hcl
  obtain ⟨hge, r, q0, cell, q1, q2, q3, q4⟩ := hR a _ hc
  have hr' : r = (C, T, N) := Option.some.inj (q0.symm.trans hcl)
  subst hr'
  obtain ⟨hSl, hfc, kC, hkC, hkind⟩ := hK.1 ci _ hcl
  obtain ⟨cf, kf, fi, f, hi, hsl⟩ := hSl k hk
  have hlay := hts _ (u_in_lay hk)
  unfold u_lay at hlay
  rw [if_neg (by rw [hfin]; decide)] at hlay
  have hst := (u_facts hfc hkC (u_lays hts (fun _ h => h) hk) hi).1
  have h6 := u_store hfc hkC hkind hlay hi hp hn hfit
  have fin : ∀ H' : Heap, H'[a]? = some (cell.setSlot f.slot v) → H'.size = H.size → (∀ q, q ≠ a → H'[q]? = H[q]?) → VW G F Q H' (locs ++ [⟨a, f.slot⟩]) cells slots (F0 (fM F) (pc + 3) ls st) := by
    intro H' e1 e2 e3
    rw [hsl] at e1 ⊢
    refine kk H' _ ls cells slots (hR.store hge ?_ e3) (hS.put e2 e3 hge) hL hz h1 h2
    exact ⟨_, hcl, t_OB.to (V := updV (vp_V vs) k v) ⟨_, e1, q2, q3, t_set q4 hap hk v⟩ (fun j _ => vp_updV_set hlen v j)⟩
  rcases hlnk with hlnk | ⟨host, hlnk⟩
  · exact W.putK hx hb (f := f) ⟨hown, hF.wd hG hlnk rfl, ⟨_, _, _, hi⟩, hst⟩ (by rw [q2]; exact h6) q1 q3 (by rw [hsl]; exact k2_hasslot (q4 k hk)) rfl rfl hd fin
  · exact va_WputK hx hb (f := f) hown (hF.wd hG hlnk rfl) hi hst (by rw [q2]; exact h6) q1 q3 (by rw [hsl]; exact k2_hasslot (q4 k hk)) rfl rfl hd fin
/-- a final field, in its class's constructor -/
theorem V.putF (hG : GOk G) (hF : Ok G F own cc nL ret) {ix ci k a : Nat} {vs : List Value} {v : Value} (hl : lkFo own ix ci k) (hin : (fMe F).name = "<init>") (hd : decode cc pc = .ok (.putfield ix, 3)) (hc : h a = some (.inr (ci, vs)))
    (hty : ∀ C T N, vwCl[ci]? = some (C, T, N) → (T k).2.2.2 = true ∧ (T k).1 = own ∧ ∃ ty, parseFieldDescriptor (T k).2.2.1 = some ty ∧ narrow ty v = v ∧ fits ty v = true) (hlen : k < vs.length)
    (kk : V G F Q kc ks (pc + 3) L st (hset h a (.inr (ci, vs.set k v)))) : V G F Q kc ks pc L (v :: .ref a :: st) h := by
  intro H locs ls cells slots hR hS hL hz h1 h2
  have hK := hF.K hG
  obtain ⟨hx, hb, hml, hr, hown, hlk, hW⟩ := id hF
  obtain ⟨C, T, N, hcl, hk, hlnk⟩ := hl
  obtain ⟨c1, ⟨ty0, c2⟩, c3⟩ := cls_ok hcl
  have hts : ∀ w ∈ u_ws C T N, w.before (fA F) (fS F) = true := fun w hw => hF.wd hG (c1 w hw).1 (c1 w hw).2
  obtain ⟨hfin, hdecl, ty, hp, hn, hfit⟩ := hty C T N hcl
  have hap := va_apart (own := own) hts (fun _ h => h) ty0 c2 c3 hK hcl
  obtain ⟨hge, r, q0, cell, q1, q2, q3, q4⟩ := hR a _ hc
  have hr' : r = (C, T, N) := Option.some.inj (q0.symm.trans hcl)
  subst hr'
  obtain ⟨hSl, hfc, kC, hkC, hkind⟩ := hK.1 ci _ hcl
  obtain ⟨cf, kf, fi, f, hi, hsl⟩ := hSl k hk
  have hlay := hts _ (u_in_lay hk)
  unfold u_lay at hlay
  rw [if_pos hfin] at hlay
  have hst := (u_facts hfc hkC (u_lays hts (fun _ h => h) hk) hi).1
  have hcf : (fM F).cls = cf := by
    obtain ⟨_, _, c', _, _, _, -, -, hf', -, -, -, hown2, -⟩ := Cond.laysFinal_spec hlay
    have e1 : c' = cf := by have := hi.symm.trans hf'; simp at this; exact this.1.symm
    rw [hdecl] at hown2
    rw [← e1]; exact Option.some.inj (hown.symm.trans hown2)
  have h6 := u_fits hfc hkC hkind (Or.inr hlay) hi hp hn hfit
  refine W.putFinK hx hb hown (hF.wd hG hlnk rfl) hi hst hcf hin (by rw [q2]; exact h6) q1 q3 (by rw [hsl]; exact k2_hasslot (q4 k hk)) rfl rfl hd fun H' e1 e2 e3 => ?_
  rw [hsl] at e1 ⊢
  refine kk H' _ ls cells slots (hR.store hge ?_ e3) (hS.put e2 e3 hge) hL hz h1 h2
  exact ⟨_, hcl, t_OB.to (V := updV (vp_V vs) k v) ⟨_, e1, q2, q3, t_set q4 hap hk v⟩ (fun j _ => vp_updV_set hlen v j)⟩
-- arrays
theorem gAr (hG : GOk G) (hF : Ok G F own cc nL ret) {t : Nat} (ht : t < 5) : ArrOfT (fS F) (gA G t) (gTy t) ∧ va_RA (fS F) (gA G t) (gTy t) := by
  have hK := hF.K hG
  match t, ht with
  | 0, _ => exact hK.2 0 _ rfl
  | 1, _ => exact hK.2 1 _ rfl
  | 2, _ => exact hK.2 2 _ rfl
  | 3, _ => exact hK.2 3 _ rfl
  | 4, _ => exact hK.2 4 _ rfl
theorem V.iald (hG : GOk G) (hF : Ok G F own cc nL ret) {a n : Nat} {f : Nat → Int32} {i : Int32} (hd : decode cc pc = .ok (.iaload, 1)) (hc : h a = some (.inl (0, n, .inl f))) (hin : vp_in i n) (kk : V G F Q kc ks (pc + 1) L (.int (f i.toNatClampNeg) :: st) h) : V G F Q kc ks pc L (.int i :: .ref a :: st) h := by
  intro H locs ls cells slots hR hS hL hz h1 h2
  exact va_iald hF.1 hF.2.1 (hF.K hG) (hR.one hc) 0 0 rfl rfl hin hd (kk H locs ls cells slots hR hS hL hz h1 h2)
theorem V.zald (hG : GOk G) (hF : Ok G F own cc nL ret) {a n : Nat} {f : Nat → Int32} {i : Int32} (hd : decode cc pc = .ok (.baload, 1)) (hc : h a = some (.inl (1, n, .inl f))) (hin : vp_in i n) (kk : V G F Q kc ks (pc + 1) L (.int (f i.toNatClampNeg) :: st) h) : V G F Q kc ks pc L (.int i :: .ref a :: st) h := by
  intro H locs ls cells slots hR hS hL hz h1 h2
  exact va_zald hF.1 hF.2.1 (hF.K hG) (hR.one hc) 0 1 rfl rfl hin hd (kk H locs ls cells slots hR hS hL hz h1 h2)
theorem V.aald (hG : GOk G) (hF : Ok G F own cc nL ret) {a n t : Nat} {f : Nat → Option Nat} {i : Int32} (hd : decode cc pc = .ok (.aaload, 1)) (hc : h a = some (.inl (t, n, .inr (.inr (.inr (.inr f)))))) (hin : vp_in i n) (kk : V G F Q kc ks (pc + 1) L (va_rf (f i.toNatClampNeg) :: st) h) (ht : 2 ≤ t ∧ t < 5 := by decide) : V G F Q kc ks pc L (.int i :: .ref a :: st) h := by
  intro H locs ls cells slots hR hS hL hz h1 h2
  have hlt : i.toNatClampNeg < n := Nat.not_le.mp fun q => hin (Or.inr q)
  have hr : (gTy t).isReference = true := by
    rcases (show t = 2 ∨ t = 3 ∨ t = 4 by omega) with rfl | rfl | rfl <;> rfl
  exact W.aald (v := va_rf (f i.toNatClampNeg)) (ty := gTy t) hF.1 hF.2.1 (hR a _ hc).2 ((gAr hG hF (t := t) ht.2).1 n (fun j => va_rf (f j))) hr (fun q => by cases q) (by show ¬ (i < 0 ∨ (arrV _ _ _).slots.size ≤ _); rw [arrV_size]; exact hin) (by show (arrV _ _ _).slots[_]? = _; rw [arrV_read _ _ hlt]) rfl rfl hd (kk H locs ls cells slots hR hS hL hz h1 h2)
theorem V.alen (hG : GOk G) (hF : Ok G F own cc nL ret) {a k : Nat} {x : vp_A} (hd : decode cc pc = .ok (.arraylength, 1)) (hk : k < 5) (hc : h a = some (.inl (k, x))) (kk : V G F Q kc ks (pc + 1) L (.int (nI x.1) :: st) h) : V G F Q kc ks pc L (.ref a :: st) h := by
  intro H locs ls cells slots hR hS hL hz h1 h2
  exact va_alen hF.1 hF.2.1 (hF.K hG) (hR.one hc) 0 k rfl (ty := gTy k) (by match k, hk with
    | 0, _ => rfl
    | 1, _ => rfl
    | 2, _ => rfl
    | 3, _ => rfl
    | 4, _ => rfl) rfl hd (kk H locs ls cells slots hR hS hL hz h1 h2)
theorem V.iast (hG : GOk G) (hF : Ok G F own cc nL ret) {a n : Nat} {f : Nat → Int32} {i x : Int32} (hd : decode cc pc = .ok (.iastore, 1)) (hc : h a = some (.inl (0, n, .inl f))) (hin : vp_in i n) (kk : V G F Q kc ks (pc + 1) L st (hset h a (.inl (0, n, .inl (upd f i.toNatClampNeg x))))) : V G F Q kc ks pc L (.int x :: .int i :: .ref a :: st) h := by
  intro H locs ls cells slots hR hS hL hz h1 h2
  refine W.iast hF.1 hF.2.1 (hR a _ hc).2 ((gAr hG hF (t := 0) (by decide)).1 n (fun j => .int (f j))) (fun q => by cases q) (by show ¬ (i < 0 ∨ (arrV _ _ _).slots.size ≤ _); rw [arrV_size]; exact hin) rfl rfl hd fun H1 e z oq => ?_
  refine kk H1 _ ls cells slots (hR.store (hR a _ hc).1 ?_ oq) (hS.put z oq (hR a _ hc).1) hL hz h1 h2
  show H1[a]? = some (vp_cell _ _)
  rw [e, vp_cell_i]
  show some ((arrV _ n _).setSlot _ _) = _
  rw [arrV_store]
  show some (arrV (gA G 0) n (updV (fun j => .int (f j)) i.toNatClampNeg (.int x))) = some (arrV (gA G 0) n (fun j => .int (upd f i.toNatClampNeg x j)))
  refine congrArg some (congrArg (arrV (gA G 0) n) (funext fun q => ?_))
  by_cases hq : q = i.toNatClampNeg
  · subst hq
    simp [updV, upd]
  · simp [updV, upd, hq]
theorem V.zast (hG : GOk G) (hF : Ok G F own cc nL ret) {a n : Nat} {f : Nat → Int32} {i x : Int32} (hd : decode cc pc = .ok (.bastore, 1)) (hc : h a = some (.inl (1, n, .inl f))) (hin : vp_in i n) (hx : narrow .boolean (.int x) = .int x) (kk : V G F Q kc ks (pc + 1) L st (hset h a (.inl (1, n, .inl (upd f i.toNatClampNeg x))))) : V G F Q kc ks pc L (.int x :: .int i :: .ref a :: st) h := by
  intro H locs ls cells slots hR hS hL hz h1 h2
  refine W.zast hF.1 hF.2.1 (hR a _ hc).2 ((gAr hG hF (t := 1) (by decide)).1 n (fun j => .int (f j))) (fun q => by cases q) (by show ¬ (i < 0 ∨ (arrV _ _ _).slots.size ≤ _); rw [arrV_size]; exact hin) rfl rfl hd fun H1 e z oq => ?_
  refine kk H1 _ ls cells slots (hR.store (hR a _ hc).1 ?_ oq) (hS.put z oq (hR a _ hc).1) hL hz h1 h2
  show H1[a]? = some (vp_cell _ _)
  rw [e, vp_cell_i, hx]
  show some ((arrV _ n _).setSlot _ _) = _
  rw [arrV_store]
  show some (arrV (gA G 1) n (updV (fun j => .int (f j)) i.toNatClampNeg (.int x))) = some (arrV (gA G 1) n (fun j => .int (upd f i.toNatClampNeg x j)))
  refine congrArg some (congrArg (arrV (gA G 1) n) (funext fun q => ?_))
  by_cases hq : q = i.toNatClampNeg
  · subst hq
    simp [updV, upd]
  · simp [updV, upd, hq]
/-- an object of class ci into an array of Tablets -/
theorem V.aast (hG : GOk G) (hF : Ok G F own cc nL ret) {a n b ci : Nat} {f : Nat → Option Nat} {i : Int32} {vs : List Value} {T : u_T} {N : Nat} (hd : decode cc pc = .ok (.aastore, 1)) (hc : h a = some (.inl (3, n, .inr (.inr (.inr (.inr f)))))) (hb : h b = some (.inr (ci, vs))) (hcl : vwCl[ci]? = some ("TallyWax$Tablet", T, N)) (hin : vp_in i n) (kk : V G F Q kc ks (pc + 1) L st (hset h a (.inl (3, n, .inr (.inr (.inr (.inr (va_up f i.toNatClampNeg (some b)))))))) ) : V G F Q kc ks pc L (.ref b :: .int i :: .ref a :: st) h := by
  intro H locs ls cells slots hR hS hL hz h1 h2
  have hK := hF.K hG
  obtain ⟨h0, hlt⟩ : ¬ i < 0 ∧ i.toNatClampNeg < n := ⟨fun q => hin (Or.inl q), Nat.not_le.mp fun q => hin (Or.inr q)⟩
  obtain ⟨kA, comp, k1, k2, k3, -⟩ := (gAr hG hF (t := 3) (by decide)).2
  have hcls := (hK.1 ci _ hcl).2
  have hcomp : comp = (gD G).1 ci := Option.some.inj (k3.symm.trans hcls.1)
  subst hcomp
  obtain ⟨kC, hkC, -⟩ := hcls.2
  obtain ⟨hgb, r, q0, cell, g1, g2, g3, g4⟩ := hR b _ hb
  refine W.aast hF.1 hF.2.1 (hR a _ hc).2 (fun q h => by cases h) (fun h => by cases h) k1 k2 rfl hkC ⟨h0, by show _ < (arrV _ _ _).slots.size; rw [arrV_size]; exact hlt⟩ g1 (fun q h => by rw [g3] at h; cases h) (by rw [g2]; exact hkC) (by rw [g2]; exact va_assign hcls) rfl rfl hd fun H1 e z oq => ?_
  refine kk H1 _ ls cells slots (hR.store (hR a _ hc).1 ?_ oq) (hS.put z oq (hR a _ hc).1) hL hz h1 h2
  show H1[a]? = some (vp_cell _ _)
  rw [e, vp_cell_q]
  show some ((arrV _ n _).setSlot _ _) = _
  rw [arrV_store]
  show some (arrV (gA G 3) n (updV (fun j => va_rf (f j)) i.toNatClampNeg (.ref b))) = some (arrV (gA G 3) n (fun j => va_rf (va_up f i.toNatClampNeg (some b) j)))
  refine congrArg some (congrArg (arrV (gA G 3) n) (funext fun q => ?_))
  by_cases hq : q = i.toNatClampNeg
  · subst hq
    simp [updV, va_up, va_rf]
  · simp [updV, va_up, hq]
-- making
def lkC (own : String) (ix ci N : Nat) (fs : List Value) : Prop := ∃ (C : String) (T : u_T), vwCl[ci]? = some (C, T, N) ∧ Cond.classLink own ix C ∈ lw_tbl ∧ Cond.instantiable C N ∈ lw_tbl ∧ Cond.initialized C ∈ lw_tbl ∧ ∀ (ty0 : Nat → FieldType), (∀ k, k < N → parseFieldDescriptor (T k).2.2.1 = some (ty0 k)) → ∀ j, j < N → defaultValue (ty0 j) = vp_V fs j
theorem V.new (hG : GOk G) (hF : Ok G F own cc nL ret) {ix ci N : Nat} {fs : List Value} (hl : lkC own ix ci N fs) (hd : decode cc pc = .ok (.new ix, 3)) (kk : ∀ q : Nat, h q = none → V G F Q kc ks (pc + 3) L (.ref q :: st) (hset h q (.inr (ci, fs)))) : V G F Q (kc + 1) (ks + N) pc L st h := by
  intro H locs ls cells slots hR hS hL hz h1 h2
  have hK := hF.K hG
  obtain ⟨hx, hb, hml, hr, hown, hlk, hW⟩ := id hF
  obtain ⟨C, T, hcl, w1, w2, w3, hfs⟩ := hl
  obtain ⟨c1, ⟨ty0, c2⟩, c3⟩ := cls_ok hcl
  have hts : ∀ w ∈ u_ws C T N, w.before (fA F) (fS F) = true := fun w hw => hF.wd hG (c1 w hw).1 (c1 w hw).2
  have hKn := hK.1 ci _ hcl
  refine W.newcK hx hb hown (hF.wd hG w1 rfl) (hF.wd hG w2 rfl) (hF.wd hG w3 rfl) rfl hd (by omega) (by omega) hKn.2.1 rfl fun H1 kC hkC e1 z1 o1 => ?_
  have hge : gN G ≤ H.size := Nat.le_trans hW.2.1 hS.1
  refine kk H.size hR.fresh H1 locs ls (cells + 1) (slots + N) ?_ ⟨Nat.le_trans hS.1 (by omega), fun x h1 h2 => (o1 x (Nat.lt_of_lt_of_le h1 hS.1)).trans (hS.2.1 x h1 h2), hS.2.2⟩ hL hz (by omega) (by omega)
  intro b d hbd
  by_cases hbH : b = H.size
  · subst hbH
    rw [hset_eq] at hbd
    cases hbd
    exact ⟨hge, _, hcl, (u_born ty0 hts (fun _ h => h) hKn hkC e1 c2).to (hfs ty0 c2)⟩
  · rw [hset_ne hbH] at hbd
    exact ⟨(hR b d hbd).1, (hR b d hbd).2.kept (o1 b (hR b d hbd).2.lt)⟩
theorem ra_prim {U : State} {cA : ClassId} {t : Nat} (ht : t < 3) (h : va_RA U cA (gTy t)) : U.vm.findClass ("[" ++ (gTy t).toString) = some cA := by
  rcases (show t = 0 ∨ t = 1 ∨ t = 2 by omega) with rfl | rfl | rfl
  · exact (show va_RA U cA .int from h)
  · exact (show va_RA U cA .boolean from h)
  · exact (show va_RA U cA (.array .int) from h)
theorem V.newa (hG : GOk G) (hF : Ok G F own cc nL ret) {aty : ArrayType} {t N : Nat} {n : Int32} {a0 : vp_A} (ht : t < 3) (hty : newarray.typeOf aty = gTy t) (hw : Cond.arrayClass (gTy t) ∈ lw_tbl) (hd : decode cc pc = .ok (.newarray aty, 2)) (hn : ¬ n < 0) (hN : n.toNatClampNeg = N) (hby : N * componentBytes (gTy t) ≤ 536870912) (ha : ∀ cA : ClassId, vp_cell cA a0 = arrV cA N (fun _ => defaultValue (gTy t)))
    (kk : ∀ q : Nat, h q = none → V G F Q kc ks (pc + 2) L (.ref q :: st) (hset h q (.inl (t, a0)))) : V G F Q (kc + 1) (ks + N) pc L (.int n :: st) h := by
  intro H locs ls cells slots hR hS hL hz h1 h2
  obtain ⟨hx, hb, hml, hr, hown, hlk, hW⟩ := id hF
  have hRA := ra_prim ht (gAr hG hF (t := t) (by omega)).2
  have hge : gN G ≤ H.size := Nat.le_trans hW.2.1 hS.1
  refine va_newaK hx hb (by rw [hty]; exact hF.wd hG hw rfl) rfl hd rfl hn hN (by rw [hty]; exact hby) (by omega) (by omega) rfl fun H1 cA e1 z1 o1 hAr hNm => ?_
  rw [hty] at e1 hNm
  have hcA : cA = gA G t := Option.some.inj (hNm.symm.trans hRA)
  subst hcA
  refine kk H.size hR.fresh H1 locs ls (cells + 1) (slots + N) ?_ ⟨Nat.le_trans hS.1 (by omega), fun x h1 h2 => (o1 x (Nat.lt_of_lt_of_le h1 hS.1)).trans (hS.2.1 x h1 h2), hS.2.2⟩ hL hz (by omega) (by omega)
  intro b d hbd
  by_cases hbH : b = H.size
  · subst hbH
    rw [hset_eq] at hbd
    cases hbd
    refine ⟨hge, ?_⟩
    show H1[H.size]? = some (vp_cell _ _)
    rw [ha]
    exact e1
  · rw [hset_ne hbH] at hbd
    exact ⟨(hR b d hbd).1, (hR b d hbd).2.kept (o1 b (hR b d hbd).2.lt)⟩
/-- an array of Tablets -/
theorem V.newq (hG : GOk G) (hF : Ok G F own cc nL ret) {ix N : Nat} {n : Int32} (w1 : Cond.classLink own ix "TallyWax$Tablet" ∈ lw_tbl) (w2 : Cond.arrayOver (.object "TallyWax$Tablet") ∈ lw_tbl) (hd : decode cc pc = .ok (.anewarray ix, 3)) (hn : ¬ n < 0) (hN : n.toNatClampNeg = N) (hby : N * 4 ≤ 536870912)
    (kk : ∀ q : Nat, h q = none → V G F Q kc ks (pc + 3) L (.ref q :: st) (hset h q (.inl (3, N, .inr (.inr (.inr (.inr (fun _ => none)))))))) : V G F Q (kc + 1) (ks + N) pc L (.int n :: st) h := by
  intro H locs ls cells slots hR hS hL hz h1 h2
  obtain ⟨hx, hb, hml, hr, hown, hlk, hW⟩ := id hF
  obtain ⟨kA0, comp0, k1, k2', k3, k4⟩ := (gAr hG hF (t := 3) (by decide)).2
  have hge : gN G ≤ H.size := Nat.le_trans hW.2.1 hS.1
  subst hN
  refine W.anew hx hb hown (hF.wd hG w1 rfl) (va_AO.use (va_AO.moved (State.WarmedH.alike hW.1) (va_AO.of (hG.2.1 _ w2)))) rfl hd rfl hn hby (by omega) (by omega) fun cA kA comp f1 f2 f3 f4 => ?_
  have hcA : cA = gA G 3 := Option.some.inj (f1.symm.trans k4)
  subst hcA
  generalize hH1 : H.push ({ cls := gA G 3, slots := Array.replicate n.toNatClampNeg .null, vm := .none } : Cell) = H1
  have z1 : H1.size = H.size + 1 := by rw [← hH1, Array.size_push]
  have e1 : H1[H.size]? = some (arrV (gA G 3) n.toNatClampNeg (fun _ => .null)) := by rw [← hH1, Array.getElem?_push_size, ← arrV_new]
  have o1 : ∀ q : Nat, q < H.size → H1[q]? = H[q]? := fun q hq => by rw [← hH1, Array.getElem?_push, if_neg (Nat.ne_of_lt hq)]
  refine kk H.size hR.fresh H1 locs ls (cells + 1) (slots + n.toNatClampNeg) ?_ ⟨Nat.le_trans hS.1 (by omega), fun x h1 h2 => (o1 x (Nat.lt_of_lt_of_le h1 hS.1)).trans (hS.2.1 x h1 h2), hS.2.2⟩ hL hz (by omega) (by omega)
  intro b d hbd
  by_cases hbH : b = H.size
  · subst hbH
    rw [hset_eq] at hbd
    cases hbd
    refine ⟨hge, ?_⟩
    show H1[H.size]? = some (vp_cell _ _)
    rw [e1]
    rfl
  · rw [hset_ne hbH] at hbd
    exact ⟨(hR b d hbd).1, (hR b d hbd).2.kept (o1 b (hR b d hbd).2.lt)⟩
end M1
