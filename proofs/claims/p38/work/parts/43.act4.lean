/-! ===== act: smoothing, denying ===== -/
section Af
variable {G : Gt} {h : Hp} {A : Nat → Nat} {q : QA} {σ : Sg} {P : PS} {r : Nat → Int32} {S : Int} {Y : Nat} {x : Int32} {F : Ft}
theorem Am.plain (hA : Am σ S) (hS : S ≤ 1073741824) {t : Nat} (ht : t < gT σ) : smM (gM σ t) (gn σ t) ≤ 1073741824 := Int.le_trans (hA t ht).2 hS
set_option maxHeartbeats 8000000 in
theorem ac_smooth (hG : GOk G) (hF : Ok G F RL cL_act 19 (some .boolean)) (hRm : acR F) (hC : CS h A σ P r) (hS : SM h q σ) (hO : SO A q) (hR : RI σ) (hA : Am σ S) (hgy : gy σ ≤ Y) (h0 : 0 ≤ S) (hSb : S ≤ 1000000) {t : Nat} (ht : t < gT σ) {L3 L4 L6 L7 L8 L9 : Option Value} :
    V G F (fin G F (actP (A 0) (qo q) S Y) pxN) 400 400 391 [some (.ref (A 0)), some (.ref (qo q)), some (.int x), L3, L4, some (.int (nI t)), L6, L7, L8, L9, none, none, none, none, none, none, none, none, none] [] h := by
  obtain ⟨s1, s2, s3, ⟨g1, s4, s5⟩, ⟨g2, s6, s7⟩, s8, s9⟩ := id hS
  obtain ⟨-, hT8, -⟩ := id hC
  have t8 : t < 8 := by omega
  have h12 := hR.2.2.2 t ht
  obtain ⟨e7, hw⟩ := s7 t t8
  rw [gm_in ht] at hw
  refine V.loc (L' := [some (.ref (A 0)), some (.ref (qo q)), some (.int x), none, none, some (.int (nI t)), none, none, none, none, none, none, none, none, none, none, none, none, none]) (fun j v hv => by
    match j, hv with
    | 0, hv => exact hv
    | 1, hv => exact hv
    | 2, hv => exact hv
    | 3, hv => cases hv
    | 4, hv => cases hv
    | 5, hv => exact hv
    | 6, hv => cases hv
    | 7, hv => cases hv
    | 8, hv => cases hv
    | 9, hv => cases hv
    | 10, hv => cases hv
    | 11, hv => cases hv
    | 12, hv => cases hv
    | 13, hv => cases hv
    | 14, hv => cases hv
    | 15, hv => cases hv
    | 16, hv => cases hv
    | 17, hv => cases hv
    | 18, hv => cases hv
    | zz + 19, hv => cases hv) ?_
  refine V.run hF [(.aload_n 1, 1, .null), (.iload 5, 2, .null)] (pc' := 394) (L' := [some (.ref (A 0)), some (.ref (qo q)), some (.int x), none, none, some (.int (nI t)), none, none, none, none, none, none, none, none, none, none, none, none, none]) (st' := [.int (nI t), .ref (qo q)]) (by decide +kernel) rfl ?_
  refine V.less (kc' := 382 + 18) (ks' := 232 + 168) (by decide) (by decide) ?_
  refine V.callV (As := [.int (nI t)]) (st := []) hG hF k_RL_59 (by decide +kernel) (c_X4_smooth hG s1 s2 s6 t8 e7 hw h12 (fun j hj => by obtain ⟨b1, b2, -, b3⟩ := hR.2.2.1 t j ht hj; exact ⟨b1, b2, b3⟩) (ok_of hR hA (by omega) ht) (hA.plain (by omega) ht)) s1 rfl rfl ⟨by rw [hRm]; decide, by rw [hRm]; decide⟩ (Nat.le_of_ble_eq_true rfl) rfl (fun v h3 hp3 => ?_) (fun E h9 hx => hx.elim)
  obtain ⟨x3, ⟨-, hv⟩ | ⟨hp1, a, R, hv, k8, k9, k10, k6⟩⟩ := hp3
  · rw [hv]
    show V G F _ _ _ 397 [some (.ref (A 0)), some (.ref (qo q)), some (.int x), none, none, some (.int (nI t)), none, none, none, none, none, none, none, none, none, none, none, none, none] [.null] h3
    refine V.run hF [(.astore 12, 2, .null), (.aload 12, 2, .null)] (pc' := 401) (L' := [some (.ref (A 0)), some (.ref (qo q)), some (.int x), none, none, some (.int (nI t)), none, none, none, none, none, none, some (.null), none, none, none, none, none, none]) (st' := [.null]) (by decide +kernel) rfl ?_
    refine V.ifnull0 hF (off := 11) (tgt := 412) (by decide +kernel) (by decide) ?_
    refine V.run hF [(.iconst 1, 1, .int 1)] (pc' := 413) (L' := [some (.ref (A 0)), some (.ref (qo q)), some (.int x), none, none, some (.int (nI t)), none, none, none, none, none, none, some (.null), none, none, none, none, none, none]) (st' := [.int 1]) (by decide +kernel) rfl ?_
    exact V.retz hF (by decide +kernel) rfl ⟨rfl, A, q, _, _, _, rfl, rfl, hC.ex x3, hS.ex x3, hO, hR, hA.up (by omega), Nat.le_trans hgy (Nat.le_add_right _ _)⟩
  · rw [hv]
    have hC3 := hC.ex x3
    have hS3 := hS.ex x3
    obtain ⟨⟨gr, m1, m2⟩, m3⟩ := id k6
    show V G F _ _ _ 397 [some (.ref (A 0)), some (.ref (qo q)), some (.int x), none, none, some (.int (nI t)), none, none, none, none, none, none, none, none, none, none, none, none, none] [.ref a] h3
    refine V.run hF [(.astore 12, 2, .null), (.aload 12, 2, .null)] (pc' := 401) (L' := [some (.ref (A 0)), some (.ref (qo q)), some (.int x), none, none, some (.int (nI t)), none, none, none, none, none, none, some (.ref a), none, none, none, none, none, none]) (st' := [.ref a]) (by decide +kernel) rfl ?_
    refine V.ifnull1 hF (off := 11) (by decide +kernel) ?_
    refine V.run hF [(.iload_n 2, 1, .null), (.iconst 2, 1, .int (nI 2))] (pc' := 406) (L' := [some (.ref (A 0)), some (.ref (qo q)), some (.int x), none, none, some (.int (nI t)), none, none, none, none, none, none, some (.ref a), none, none, none, none, none, none]) (st' := [.int (nI 2), .int x]) (by decide +kernel) rfl ?_
    refine V.callS (As := [.int x, .int (nI 2)]) (st := []) hG hF k_RL_15 (by decide +kernel) (c_L_below hG x (n := 2) (by omega) (by omega)) rfl ⟨by rw [hRm]; decide, by rw [hRm]; decide⟩ (Nat.le_of_ble_eq_true rfl) rfl (fun v h_2 gp2 => ?_) (fun E h9 hx => hx.elim)
    obtain ⟨rfl, he_gp2⟩ := gp2
    rw [he_gp2]
    show V G F _ _ _ 409 [some (.ref (A 0)), some (.ref (qo q)), some (.int x), none, none, some (.int (nI t)), none, none, none, none, none, none, some (.ref a), none, none, none, none, none, none] [.int (nI (bl x 2))] h3
    obtain ⟨z, hz⟩ : ∃ z : Nat, z = bl x 2 := ⟨_, rfl⟩
    rw [← hz]
    have lt_z : z < 2 := by rw [hz]; exact Nat.mod_lt _ (by omega)
    refine V.if_ne hF (off := 5) (tgt := 414) (by decide +kernel) (by decide) (fun cz => ?_) (fun cz => ?_)
    · skip
      refine V.run hF [(.aload_n 1, 1, .null)] (pc' := 415) (L' := [some (.ref (A 0)), some (.ref (qo q)), some (.int x), none, none, some (.int (nI t)), none, none, none, none, none, none, some (.ref a), none, none, none, none, none, none]) (st' := [.ref (qo q)]) (by decide +kernel) rfl ?_
      refine V.getf hG hF k_RL_31 (by decide +kernel) (x3 _ _ s1) rfl ?_
      refine V.run hF [(.iload 5, 2, .null), (.aload 12, 2, .null)] (pc' := 422) (L' := [some (.ref (A 0)), some (.ref (qo q)), some (.int x), none, none, some (.int (nI t)), none, none, none, none, none, none, some (.ref a), none, none, none, none, none, none]) (st' := [.ref a, .int (nI t), .ref (qli q)]) (by decide +kernel) rfl ?_
      refine V.aastAN (j := t) hG hF (by decide) (by decide +kernel) (x3 _ _ s6) m1 (by omega) (by first | decide | omega) ?_
      obtain ⟨h_3, gh3⟩ : ∃ z : Hp, z = hset h3 (qli q) (.inl (4, 8, .inr (.inr (.inr (.inr (va_up g2 t (some a))))))) := ⟨_, rfl⟩
      refine V.hp gh3 ?_
      have gk3 : ∀ zq : Nat, zq ≠ (qli q) → h_3 zq = h3 zq := fun zq hq => by rw [gh3]; exact hset_ne hq
      have gs3 : h_3 (qli q) = some (.inl (4, 8, .inr (.inr (.inr (.inr (va_up g2 t (some a))))))) := by rw [gh3]; exact hset_eq
      have ew : Exw (qli q) h3 h_3 := Exw.of (fun y hy => gk3 y hy)
      have hag := pl_ag (th := gth σ) 8 (z0 (gbal σ t)) (pl0 (gDD σ t) (gC σ t) (gM σ t) (gn σ t) P) ⟨fun p _ => rfl, rfl, fun j hj => absurd hj (Nat.not_lt_zero j)⟩
      obtain ⟨ag1, -, ag2, ag3⟩ := hag
      have ag2 : pn (pl (gth σ) 8 (z0 (gbal σ t))).2 = pn (smP σ P t) := ag2
      have k6' := k6.exk ew (x3 _ _ s6) ⟨nofun, nofun⟩
      have hS4 := SM.lines (h0 := h) (a := a) (n := pn (smP σ P t)) (R := R) (D := mxk (pn (smP σ P t)) (pD (smP σ P t)) (gDD σ t)) (C := mxk (pn (smP σ P t)) (pC (smP σ P t)) (gC σ t)) (M := mxk (pn (smP σ P t)) (pM (smP σ P t)) (gM σ t)) (W := mxk (pn (smP σ P t)) (pW (smP σ P t)) (gW σ t)) hS3 ht hT8 (x3 _ _ s6) gs3 (by
        rw [← ag2]
        refine k6'.cg fun j hj => ?_
        obtain ⟨j1, j2, j3, j4⟩ := ag3 j hj
        rw [show mxk (pn (pl (gth σ) 8 (z0 (gbal σ t))).2) (pD (smP σ P t)) (gDD σ t) j = _ from if_pos hj, show mxk (pn (pl (gth σ) 8 (z0 (gbal σ t))).2) (pC (smP σ P t)) (gC σ t) j = _ from if_pos hj, show mxk (pn (pl (gth σ) 8 (z0 (gbal σ t))).2) (pM (smP σ P t)) (gM σ t) j = _ from if_pos hj, show mxk (pn (pl (gth σ) 8 (z0 (gbal σ t))).2) (pW (smP σ P t)) (gW σ t) j = _ from if_pos hj]
        exact ⟨j1, j2, j3, j4⟩) ew (by rw [← ag2]; exact k10) (fun j hj => Or.inl (k9 j (by rw [ag2]; exact hj))) hS
      have hC4 := hC3.exw ew (hS3.o6 hC3)
      obtain ⟨-, -, gA2, -⟩ := id hC4
      have nal : a ≠ qli q := nek m1 (x3 _ _ s6) nofun
      have ma := (gk3 a nal).trans m1
      have hpr : (pr (gth σ) 8 (gbal σ t)).1 = true := (pl_pr (th := gth σ) 8 (z0 (gbal σ t))).1.symm.trans hp1
      refine V.run hF [(.aload_n 0, 1, .null), (.iload 5, 2, .null)] (pc' := 426) (L' := [some (.ref (A 0)), some (.ref (qo q)), some (.int x), none, none, some (.int (nI t)), none, none, none, none, none, none, some (.ref a), none, none, none, none, none, none]) (st' := [.int (nI t), .ref (A 0)]) (by decide +kernel) rfl ?_
      refine V.less (kc' := 380 + 2) (ks' := 220 + 12) (by decide) (by decide) ?_
      refine V.callV (As := [.int (nI t)]) (st := []) hG hF k_RL_63 (by decide +kernel) (c_X3_smooth hG hC4 (nI t)) gA2 rfl rfl ⟨by rw [hRm]; decide, by rw [hRm]; decide⟩ (Nat.le_of_ble_eq_true rfl) rfl (fun v5 h5 hp5 => ?_) (fun E h9 hx => (hx.elim (fun z => z.2.1 ⟨t, ht, rfl⟩) (fun z => by obtain ⟨-, t', ht', et, z, -⟩ := z; rw [← (nI_eq (by omega) (by omega)).mp et] at z; exact z hpr)).elim)
      obtain ⟨t', ht', et, -, hv5, hC5, hk5⟩ := hp5
      have et : t = t' := (nI_eq (by omega) (by omega)).mp et
      subst et
      have hS5 := hS4.kp hC4 hO hk5
      have ma5 := (hk5 a (hC4.off ma (fun i _ _ k => by simp [CK] at k))).trans ma
      rw [hv5]
      show V G F _ _ _ 429 [some (.ref (A 0)), some (.ref (qo q)), some (.int x), none, none, some (.int (nI t)), none, none, none, none, none, none, some (.ref a), none, none, none, none, none, none] [.int (nI (pn (smP σ P t)))] h5
      refine V.run hF [(.aload 12, 2, .null)] (pc' := 431) (L' := [some (.ref (A 0)), some (.ref (qo q)), some (.int x), none, none, some (.int (nI t)), none, none, none, none, none, none, some (.ref a), none, none, none, none, none, none]) (st' := [.ref a, .int (nI (pn (smP σ P t)))]) (by decide +kernel) rfl ?_
      refine V.alen hG hF (by decide +kernel) (by decide) ma5 ?_
      show V G F _ _ _ 432 [some (.ref (A 0)), some (.ref (qo q)), some (.int x), none, none, some (.int (nI t)), none, none, none, none, none, none, some (.ref a), none, none, none, none, none, none] [.int (nI (pn (pl (gth σ) 8 (z0 (gbal σ t))).2)), .int (nI (pn (smP σ P t)))] h5
      rw [ag2]
      refine V.icmp_ne hF (off := 7) (tgt := 439) (by decide +kernel) (by decide) (fun c7 => ?_) (fun c7 => ?_)
      · exact absurd rfl c7
      · skip
        refine V.run hF [(.iconst 1, 1, .int 1), (.goto 4, 3, .null)] (pc' := 440) (L' := [some (.ref (A 0)), some (.ref (qo q)), some (.int x), none, none, some (.int (nI t)), none, none, none, none, none, none, some (.ref a), none, none, none, none, none, none]) (st' := [.int 1]) (by decide +kernel) rfl ?_
        exact V.retz hF (by decide +kernel) rfl ⟨rfl, A, qlines q t a R, _, _, _, rfl, rfl, hC5, hS5, hO, hR.sm hA (by omega) ht, (hA.sm hR (by omega) ht).up (by omega), Nat.le_trans hgy (Nat.le_add_right _ _)⟩
    · skip
      refine V.run hF [(.iconst 1, 1, .int 1)] (pc' := 413) (L' := [some (.ref (A 0)), some (.ref (qo q)), some (.int x), none, none, some (.int (nI t)), none, none, none, none, none, none, some (.ref a), none, none, none, none, none, none]) (st' := [.int 1]) (by decide +kernel) rfl ?_
      exact V.retz hF (by decide +kernel) rfl ⟨rfl, A, q, _, _, _, rfl, rfl, hC3, hS3, hO, hR, hA.up (by omega), Nat.le_trans hgy (Nat.le_add_right _ _)⟩
set_option maxHeartbeats 8000000 in
theorem ac_deny (hG : GOk G) (hF : Ok G F RL cL_act 19 (some .boolean)) (hRm : acR F) (hC : CS h A σ P r) (hS : SM h q σ) (hO : SO A q) (hR : RI σ) (hA : Am σ S) (hgy : gy σ ≤ Y) (h0 : 0 ≤ S) {t l : Nat} (ht : t < gT σ) (hl : gn σ t = 0 ∨ l < gn σ t) {L3 L4 L9 : Option Value} :
    V G F (fin G F (actP (A 0) (qo q) S Y) pxN) 400 400 300 [some (.ref (A 0)), some (.ref (qo q)), some (.int x), L3, L4, some (.int (nI t)), some (.ref (qla q t)), some (.int (nI (gn σ t))), some (.int (nI l)), L9, none, none, none, none, none, none, none, none, none] [] h := by
  obtain ⟨s1, s2, s3, ⟨g1, s4, s5⟩, ⟨g2, s6, s7⟩, s8, s9⟩ := id hS
  obtain ⟨-, hT8, -⟩ := id hC
  have t8 : t < 8 := by omega
  have h12 := hR.2.2.2 t ht
  obtain ⟨e7, ⟨⟨g3, w1, w2⟩, w3⟩⟩ := s7 t t8
  rw [gm_in ht] at w1 w2 w3
  refine V.loc (L' := [some (.ref (A 0)), some (.ref (qo q)), some (.int x), none, none, some (.int (nI t)), some (.ref (qla q t)), some (.int (nI (gn σ t))), some (.int (nI l)), none, none, none, none, none, none, none, none, none, none]) (fun j v hv => by
    match j, hv with
    | 0, hv => exact hv
    | 1, hv => exact hv
    | 2, hv => exact hv
    | 3, hv => cases hv
    | 4, hv => cases hv
    | 5, hv => exact hv
    | 6, hv => exact hv
    | 7, hv => exact hv
    | 8, hv => exact hv
    | 9, hv => cases hv
    | 10, hv => cases hv
    | 11, hv => cases hv
    | 12, hv => cases hv
    | 13, hv => cases hv
    | 14, hv => cases hv
    | 15, hv => cases hv
    | 16, hv => cases hv
    | 17, hv => cases hv
    | 18, hv => cases hv
    | zz + 19, hv => cases hv) ?_
  have rej : V G F (fin G F (actP (A 0) (qo q) S Y) pxN) 400 400 335 [some (.ref (A 0)), some (.ref (qo q)), some (.int x), none, none, some (.int (nI t)), some (.ref (qla q t)), some (.int (nI (gn σ t))), some (.int (nI l)), none, none, none, none, none, none, none, none, none, none] [] h := by
    refine V.run hF [(.iconst 1, 1, .int 1)] (pc' := 336) (L' := [some (.ref (A 0)), some (.ref (qo q)), some (.int x), none, none, some (.int (nI t)), some (.ref (qla q t)), some (.int (nI (gn σ t))), some (.int (nI l)), none, none, none, none, none, none, none, none, none, none]) (st' := [.int 1]) (by decide +kernel) rfl ?_
    exact V.retz hF (by decide +kernel) rfl ⟨rfl, A, q, _, _, _, rfl, rfl, hC, hS, hO, hR, hA.up (by omega), Nat.le_trans hgy (Nat.le_add_right _ _)⟩
  refine V.run hF [(.iload 7, 2, .null)] (pc' := 302) (L' := [some (.ref (A 0)), some (.ref (qo q)), some (.int x), none, none, some (.int (nI t)), some (.ref (qla q t)), some (.int (nI (gn σ t))), some (.int (nI l)), none, none, none, none, none, none, none, none, none, none]) (st' := [.int (nI (gn σ t))]) (by decide +kernel) rfl ?_
  refine V.if_eq hF (off := 33) (tgt := 335) (by decide +kernel) (by decide) (fun c1 => ?_) (fun c1 => ?_)
  · exact rej
  · skip
    have hl' : l < gn σ t := hl.resolve_left fun z => c1 (by rw [z]; rfl)
    obtain ⟨l1, l2, l3, l4⟩ := hR.2.2.1 t l ht hl'
    obtain ⟨fr, er, r0, r1, r2, r3⟩ := w3 l hl'
    obtain ⟨d, hd, ed⟩ := inP_of l1
    obtain ⟨w, hw, ewt⟩ := inP_of l3
    have nro : qrr q t l ≠ qo q := nek er s1 nofun
    have nlo : qla q t ≠ qo q := nek w1 s1 nofun
    have nqo : qli q ≠ qo q := nek s6 s1 nofun
    have nrl : qrr q t l ≠ qli q := nek er s6 nofun
    refine V.run hF [(.aload_n 1, 1, .null)] (pc' := 306) (L' := [some (.ref (A 0)), some (.ref (qo q)), some (.int x), none, none, some (.int (nI t)), some (.ref (qla q t)), some (.int (nI (gn σ t))), some (.int (nI l)), none, none, none, none, none, none, none, none, none, none]) (st' := [.ref (qo q)]) (by decide +kernel) rfl ?_
    refine V.getf hG hF k_RL_48 (by decide +kernel) s1 rfl ?_
    refine V.run hF [(.aload 6, 2, .null), (.iload 8, 2, .null)] (pc' := 313) (L' := [some (.ref (A 0)), some (.ref (qo q)), some (.int x), none, none, some (.int (nI t)), some (.ref (qla q t)), some (.int (nI (gn σ t))), some (.int (nI l)), none, none, none, none, none, none, none, none, none, none]) (st' := [.int (nI l), .ref (qla q t), .ref (qth q)]) (by decide +kernel) rfl ?_
    refine V.aaldS (j := l) (b := (qrr q t l)) hG hF (by decide +kernel) w1 (by omega) (by first | decide | omega) (w2 l hl') ?_
    refine V.run hF [(.iconst 3, 1, .int (nI 3))] (pc' := 315) (L' := [some (.ref (A 0)), some (.ref (qo q)), some (.int x), none, none, some (.int (nI t)), some (.ref (qla q t)), some (.int (nI (gn σ t))), some (.int (nI l)), none, none, none, none, none, none, none, none, none, none]) (st' := [.int (nI 3), .ref (qrr q t l), .ref (qth q)]) (by decide +kernel) rfl ?_
    refine V.ialdN (j := 3) hG hF (by decide +kernel) er (by omega) (by first | decide | omega) ?_
    rw [r3, ewt]
    refine V.zaldN (j := w) hG hF (by decide +kernel) s2 (by omega) (by first | decide | omega) ?_
    refine V.if_ne hF (off := 18) (tgt := 335) (by decide +kernel) (by decide) (fun c2 => ?_) (fun c2 => ?_)
    · exact rej
    · skip
      refine V.run hF [(.aload_n 1, 1, .null)] (pc' := 321) (L' := [some (.ref (A 0)), some (.ref (qo q)), some (.int x), none, none, some (.int (nI t)), some (.ref (qla q t)), some (.int (nI (gn σ t))), some (.int (nI l)), none, none, none, none, none, none, none, none, none, none]) (st' := [.ref (qo q)]) (by decide +kernel) rfl ?_
      refine V.getf hG hF k_RL_48 (by decide +kernel) s1 rfl ?_
      refine V.run hF [(.aload 6, 2, .null), (.iload 8, 2, .null)] (pc' := 328) (L' := [some (.ref (A 0)), some (.ref (qo q)), some (.int x), none, none, some (.int (nI t)), some (.ref (qla q t)), some (.int (nI (gn σ t))), some (.int (nI l)), none, none, none, none, none, none, none, none, none, none]) (st' := [.int (nI l), .ref (qla q t), .ref (qth q)]) (by decide +kernel) rfl ?_
      refine V.aaldS (j := l) (b := (qrr q t l)) hG hF (by decide +kernel) w1 (by omega) (by first | decide | omega) (w2 l hl') ?_
      refine V.run hF [(.iconst 0, 1, .int (nI 0))] (pc' := 330) (L' := [some (.ref (A 0)), some (.ref (qo q)), some (.int x), none, none, some (.int (nI t)), some (.ref (qla q t)), some (.int (nI (gn σ t))), some (.int (nI l)), none, none, none, none, none, none, none, none, none, none]) (st' := [.int (nI 0), .ref (qrr q t l), .ref (qth q)]) (by decide +kernel) rfl ?_
      refine V.ialdN (j := 0) hG hF (by decide +kernel) er (by omega) (by first | decide | omega) ?_
      rw [r0, ed]
      refine V.zaldN (j := d) hG hF (by decide +kernel) s2 (by omega) (by first | decide | omega) ?_
      refine V.if_ne hF (off := 5) (tgt := 337) (by decide +kernel) (by decide) (fun c3 => ?_) (fun c3 => ?_)
      · skip
        refine V.run hF [(.aload_n 1, 1, .null), (.dup, 1, .null)] (pc' := 339) (L' := [some (.ref (A 0)), some (.ref (qo q)), some (.int x), none, none, some (.int (nI t)), some (.ref (qla q t)), some (.int (nI (gn σ t))), some (.int (nI l)), none, none, none, none, none, none, none, none, none, none]) (st' := [.ref (qo q), .ref (qo q)]) (by decide +kernel) rfl ?_
        refine V.getf hG hF k_RL_52 (by decide +kernel) s1 rfl ?_
        refine V.run hF [(.aload 6, 2, .null), (.iload 8, 2, .null)] (pc' := 346) (L' := [some (.ref (A 0)), some (.ref (qo q)), some (.int x), none, none, some (.int (nI t)), some (.ref (qla q t)), some (.int (nI (gn σ t))), some (.int (nI l)), none, none, none, none, none, none, none, none, none, none]) (st' := [.int (nI l), .ref (qla q t), .int (gde σ), .ref (qo q)]) (by decide +kernel) rfl ?_
        refine V.aaldS (j := l) (b := (qrr q t l)) hG hF (by decide +kernel) w1 (by omega) (by first | decide | omega) (w2 l hl') ?_
        refine V.run hF [(.iconst 2, 1, .int (nI 2))] (pc' := 348) (L' := [some (.ref (A 0)), some (.ref (qo q)), some (.int x), none, none, some (.int (nI t)), some (.ref (qla q t)), some (.int (nI (gn σ t))), some (.int (nI l)), none, none, none, none, none, none, none, none, none, none]) (st' := [.int (nI 2), .ref (qrr q t l), .int (gde σ), .ref (qo q)]) (by decide +kernel) rfl ?_
        refine V.ialdN (j := 2) hG hF (by decide +kernel) er (by omega) (by first | decide | omega) ?_
        rw [r2]
        refine V.run hF [(.iadd, 1, .null)] (pc' := 350) (L' := [some (.ref (A 0)), some (.ref (qo q)), some (.int x), none, none, some (.int (nI t)), some (.ref (qla q t)), some (.int (nI (gn σ t))), some (.int (nI l)), none, none, none, none, none, none, none, none, none, none]) (st' := [.int (gde σ + gM σ t l), .ref (qo q)]) (by decide +kernel) rfl ?_
        refine V.putf hG hF k_RL_52 (by decide +kernel) s1 (fun C T N hc => by cases hc; exact ⟨rfl, .int, by decide +kernel, rfl, rfl⟩) (Nat.le_of_ble_eq_true rfl) ?_
        obtain ⟨h_1, gh1⟩ : ∃ z : Hp, z = hset h (qo q) (.inr (4, [.ref (qth q), .ref (qhe q), .ref (qta q), .ref (qli q), .int (nI (gy σ)), .int (gme σ), .int (gde σ + gM σ t l)])) := ⟨_, rfl⟩
        refine V.hp gh1 ?_
        have gk1 : ∀ zq : Nat, zq ≠ (qo q) → h_1 zq = h zq := fun zq hq => by rw [gh1]; exact hset_ne hq
        have gs1 : h_1 (qo q) = some (.inr (4, [.ref (qth q), .ref (qhe q), .ref (qta q), .ref (qli q), .int (nI (gy σ)), .int (gme σ), .int (gde σ + gM σ t l)])) := by rw [gh1]; exact hset_eq
        have hS1 := hS.ymd (y := gy σ) (me := gme σ) (de := gde σ + gM σ t l) gs1 (Exw.of (fun y hy => gk1 y hy))
        have hC1 := hC.exw (w := qo q) (Exw.of (fun y hy => gk1 y hy)) (hS.o1 hC)
        have kx : ∀ y, y ≠ qo q → h_1 y = h y := fun y hy => gk1 y hy
        obtain ⟨h1, eh1⟩ : ∃ z : Hp, z = h_1 := ⟨_, rfl⟩
        rw [← eh1] at hS1 hC1 kx
        refine V.run hF [(.aload_n 1, 1, .null)] (pc' := 354) (L' := [some (.ref (A 0)), some (.ref (qo q)), some (.int x), none, none, some (.int (nI t)), some (.ref (qla q t)), some (.int (nI (gn σ t))), some (.int (nI l)), none, none, none, none, none, none, none, none, none, none]) (st' := [.ref (qo q)]) (by decide +kernel) rfl ?_
        refine V.getf hG hF k_RL_31 (by decide +kernel) gs1 rfl ?_
        refine V.run hF [(.iload 5, 2, .null), (.aload 6, 2, .null), (.iload 8, 2, .null)] (pc' := 363) (L' := [some (.ref (A 0)), some (.ref (qo q)), some (.int x), none, none, some (.int (nI t)), some (.ref (qla q t)), some (.int (nI (gn σ t))), some (.int (nI l)), none, none, none, none, none, none, none, none, none, none]) (st' := [.int (nI l), .ref (qla q t), .int (nI t), .ref (qli q)]) (by decide +kernel) rfl ?_
        refine V.less (kc' := 399 + 1) (ks' := 388 + 12) (by decide) (by decide) ?_
        rw [← eh1]
        obtain ⟨m, em⟩ : ∃ m, gn σ t = m + 1 := ⟨gn σ t - 1, by omega⟩
        have w1' : h1 (qla q t) = some (.inl (2, m + 1, .inr (.inr (.inr (.inr g3))))) := by rw [← em]; exact (kx _ nlo).trans w1
        have s1' : ∃ c, h1 (qo q) = some c := ⟨_, hS1.1⟩
        refine V.callS (As := [.ref (qla q t), .int (nI l)]) (st := [.int (nI t), .ref (qli q)]) hG hF k_RL_40 (by decide +kernel) (c_X4_without (a := qla q t) (m := m) (k := l) (g := g3) hG w1' (fun j hj => by obtain ⟨f, e2, -⟩ := w3 j (by omega); exact ⟨qrr q t j, _, w2 j (by omega), (kx _ (nek e2 s1 nofun)).trans e2⟩) (by omega) (by omega)) rfl ⟨by rw [hRm]; decide, by rw [hRm]; decide⟩ (Nat.le_of_ble_eq_true rfl) rfl (fun v h3 hp3 => ?_) (fun E h9 hx => hx.elim)
        obtain ⟨na, g', hv, a1, a2, a3, a4⟩ := hp3
        rw [hv]
        have x3 : Ex h1 h3 := Ex.new a1 a4
        have s6' : h1 (qli q) = some (.inl (4, 8, .inr (.inr (.inr (.inr g2))))) := (kx _ nqo).trans s6
        show V G F _ _ _ 366 [some (.ref (A 0)), some (.ref (qo q)), some (.int x), none, none, some (.int (nI t)), some (.ref (qla q t)), some (.int (nI (gn σ t))), some (.int (nI l)), none, none, none, none, none, none, none, none, none, none] [.ref na, .int (nI t), .ref (qli q)] h3
        refine V.aastAN (j := t) hG hF (by decide) (by decide +kernel) (x3 _ _ s6') a2 (by omega) (by first | decide | omega) ?_
        obtain ⟨h_3, gh3⟩ : ∃ z : Hp, z = hset h3 (qli q) (.inl (4, 8, .inr (.inr (.inr (.inr (va_up g2 t (some na))))))) := ⟨_, rfl⟩
        refine V.hp gh3 ?_
        have gk3 : ∀ zq : Nat, zq ≠ (qli q) → h_3 zq = h3 zq := fun zq hq => by rw [gh3]; exact hset_ne hq
        have gs3 : h_3 (qli q) = some (.inl (4, 8, .inr (.inr (.inr (.inr (va_up g2 t (some na))))))) := by rw [gh3]; exact hset_eq
        have ew : Exw (qli q) h1 h_3 := fun y cc hcc hy => (gk3 y hy).trans (x3 y cc hcc)
        have nna : na ≠ qli q := nek a2 (x3 _ _ s6') nofun
        have ixl : ∀ j, j < gn σ t - 1 → (if j < l then j else j + 1) < gn σ t := fun j hj => by split <;> omega
        have hS2 := SM.lines (h0 := h1) (a := na) (n := gn σ t - 1) (R := fun j => qrr q t (if j < l then j else j + 1)) (D := shk l (gn σ t - 1 - l) (gDD σ t)) (C := shk l (gn σ t - 1 - l) (gC σ t)) (M := shk l (gn σ t - 1 - l) (gM σ t)) (W := shk l (gn σ t - 1 - l) (gW σ t)) hS1 ht hT8 s6' gs3 (by
          refine ⟨⟨g', by rw [show gn σ t - 1 = m by omega]; exact (gk3 _ nna).trans a2, fun j hj => ?_⟩, fun j hj => ?_⟩
          · rw [a3 j (by omega)]
            exact w2 _ (ixl j hj)
          · rw [shk_at hl' hj, shk_at hl' hj, shk_at hl' hj, shk_at hl' hj]
            obtain ⟨f, e1, e2⟩ := w3 _ (ixl j hj)
            exact ⟨f, ew _ _ ((kx _ (nek e1 s1 nofun)).trans e1) (nek e1 s6 nofun), e2⟩) ew (fun i j hi hj e => by
          have := (s9 t t _ _ t8 t8 (by rw [gm_in ht]; exact ixl i hi) (by rw [gm_in ht]; exact ixl j hj) e).2
          split at this <;> split at this <;> omega) (fun j hj => Or.inr ⟨_, ixl j hj, rfl⟩) hS1
        have hC2 := hC1.exw ew (hS1.o6 hC1)
        obtain ⟨-, -, gA2, -⟩ := id hC2
        have er2 := ew _ _ ((kx _ nro).trans er) nrl
        have er1 : h_3 (qla q t) = some (.inl (2, gn σ t, .inr (.inr (.inr (.inr g3))))) := ew _ _ ((kx _ nlo).trans w1) (nek w1 s6 nofun)
        have ct : (nI t).toNatClampNeg = t := nI_clamp (by omega)
        have cl : (nI l).toNatClampNeg = l := nI_clamp (by omega)
        have q1 : okL σ (nI t) (nI l) := ⟨t, l, ht, hl', rfl, rfl⟩
        have q2 : dy2 σ (nI t) (nI l) := by
          unfold dy2
          rw [ct, cl, ewt, ed]
          exact ⟨prs_no hw c2, prs_of hd c3⟩
        refine V.run hF [(.aload_n 0, 1, .null), (.iload 5, 2, .null), (.iload 8, 2, .null)] (pc' := 372) (L' := [some (.ref (A 0)), some (.ref (qo q)), some (.int x), none, none, some (.int (nI t)), some (.ref (qla q t)), some (.int (nI (gn σ t))), some (.int (nI l)), none, none, none, none, none, none, none, none, none, none]) (st' := [.int (nI l), .int (nI t), .ref (A 0)]) (by decide +kernel) rfl ?_
        refine V.less (kc' := 395 + 4) (ks' := 364 + 24) (by decide) (by decide) ?_
        refine V.callV (As := [.int (nI t), .int (nI l)]) (st := []) hG hF k_RL_56 (by decide +kernel) (c_X3_deny hG hC2 (nI t) (nI l)) gA2 rfl rfl ⟨by rw [hRm]; decide, by rw [hRm]; decide⟩ (Nat.le_of_ble_eq_true rfl) rfl (fun v4 h4 hp4 => ?_) (fun E h9 hx => (hx.1.elim (fun z => z.2 q1) (fun z => z.elim (fun z => z.2.2 trivial) (fun z => z.2.2.2 q2))).elim)
        obtain ⟨-, -, t', l', ht', hl9, et, el, hv4, hC4, hk4⟩ := hp4
        have et : t = t' := (nI_eq (by omega) (by omega)).mp et
        subst et
        have h12' : gn σ t ≤ 12 := h12
        have el : l = l' := (nI_eq (by omega) (by omega)).mp el
        subst el
        have hS4 := hS2.kp hC2 hO hk4
        have er4 := (hk4 _ (hC2.off er2 (fun i _ _ k => by simp [CK] at k))).trans er2
        have er5 := (hk4 _ (hC2.off er1 (fun i _ _ k => by simp [CK] at k))).trans er1
        rw [hv4]
        show V G F _ _ _ 375 [some (.ref (A 0)), some (.ref (qo q)), some (.int x), none, none, some (.int (nI t)), some (.ref (qla q t)), some (.int (nI (gn σ t))), some (.int (nI l)), none, none, none, none, none, none, none, none, none, none] [.int (gM σ t l)] h4
        refine V.run hF [(.aload 6, 2, .null), (.iload 8, 2, .null)] (pc' := 379) (L' := [some (.ref (A 0)), some (.ref (qo q)), some (.int x), none, none, some (.int (nI t)), some (.ref (qla q t)), some (.int (nI (gn σ t))), some (.int (nI l)), none, none, none, none, none, none, none, none, none, none]) (st' := [.int (nI l), .ref (qla q t), .int (gM σ t l)]) (by decide +kernel) rfl ?_
        refine V.aaldS (j := l) (b := (qrr q t l)) hG hF (by decide +kernel) er5 (by omega) (by first | decide | omega) (w2 l hl') ?_
        refine V.run hF [(.iconst 2, 1, .int (nI 2))] (pc' := 381) (L' := [some (.ref (A 0)), some (.ref (qo q)), some (.int x), none, none, some (.int (nI t)), some (.ref (qla q t)), some (.int (nI (gn σ t))), some (.int (nI l)), none, none, none, none, none, none, none, none, none, none]) (st' := [.int (nI 2), .ref (qrr q t l), .int (gM σ t l)]) (by decide +kernel) rfl ?_
        refine V.ialdN (j := 2) hG hF (by decide +kernel) er4 (by omega) (by first | decide | omega) ?_
        rw [r2]
        refine V.icmp_ne hF (off := 7) (tgt := 389) (by decide +kernel) (by decide) (fun c7 => ?_) (fun c7 => ?_)
        · exact absurd rfl c7
        · skip
          refine V.run hF [(.iconst 1, 1, .int 1), (.goto 4, 3, .null)] (pc' := 390) (L' := [some (.ref (A 0)), some (.ref (qo q)), some (.int x), none, none, some (.int (nI t)), some (.ref (qla q t)), some (.int (nI (gn σ t))), some (.int (nI l)), none, none, none, none, none, none, none, none, none, none]) (st' := [.int 1]) (by decide +kernel) rfl ?_
          exact V.retz hF (by decide +kernel) rfl ⟨rfl, A, qlines q t na (fun j => qrr q t (if j < l then j else j + 1)), _, _, _, rfl, rfl, hC4, hS4, hO, hR.dy ht hl', (hA.dy ht hl').up (by omega), Nat.le_trans hgy (Nat.le_add_right _ _)⟩
      · skip
        exact rej
end Af
