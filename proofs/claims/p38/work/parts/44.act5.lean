/-! ===== act: paying ===== -/
theorem vu_vu {α : Type} {f : Nat → α} {k : Nat} {a b : α} : va_up (va_up f k a) k b = va_up f k b := by
  funext j
  by_cases z : j = k
  · rw [z, va_up_self, va_up_self]
  · rw [va_up_ne _ _ z, va_up_ne _ _ z, va_up_ne _ _ z]
theorem sTab_tab {σ : Sg} {t n n' : Nat} {ha ce ha' ce' : Int32} {D C M W D' C' M' W' : Nat → Int32} : sTab (sTab σ t ha ce n D C M W) t ha' ce' n' D' C' M' W' = sTab σ t ha' ce' n' D' C' M' W' := by
  show ((gth σ, gT σ, va_up (va_up (gha σ) t ha) t ha', va_up (va_up (gce σ) t ce) t ce', va_up (va_up (gn σ) t n) t n', (va_up (va_up (gDD σ) t D) t D', va_up (va_up (gC σ) t C) t C', va_up (va_up (gM σ) t M) t M', va_up (va_up (gW σ) t W) t W'), ghe σ, gy σ, gme σ, gde σ) : Sg) = (gth σ, gT σ, va_up (gha σ) t ha', va_up (gce σ) t ce', va_up (gn σ) t n', (va_up (gDD σ) t D', va_up (gC σ) t C', va_up (gM σ) t M', va_up (gW σ) t W'), ghe σ, gy σ, gme σ, gde σ)
  rw [vu_vu, vu_vu, vu_vu, vu_vu, vu_vu, vu_vu, vu_vu]
section Ag
variable {G : Gt} {h : Hp} {A : Nat → Nat} {q : QA} {σ : Sg} {P : PS} {r : Nat → Int32} {S : Int} {Y : Nat} {x : Int32} {F : Ft}
set_option maxHeartbeats 8000000 in
theorem ac_pay (hG : GOk G) (hF : Ok G F RL cL_act 19 (some .boolean)) (hRm : acR F) (hC : CS h A σ P r) (hS : SM h q σ) (hO : SO A q) (hR : RI σ) (hA : Am σ S) (hgy : gy σ ≤ Y) (h0 : 0 ≤ S) {t l : Nat} (ht : t < gT σ) (hl : gn σ t = 0 ∨ l < gn σ t) {L3 L4 L9 : Option Value} :
    V G F (fin G F (actP (A 0) (qo q) S Y) pxN) 400 400 192 [some (.ref (A 0)), some (.ref (qo q)), some (.int x), L3, L4, some (.int (nI t)), some (.ref (qla q t)), some (.int (nI (gn σ t))), some (.int (nI l)), L9, none, none, none, none, none, none, none, none, none] [] h := by
  obtain ⟨s1, s2, s3, ⟨g1, s4, s5⟩, ⟨g2, s6, s7⟩, s8, s9⟩ := id hS
  obtain ⟨-, hT8, -⟩ := id hC
  have t8 : t < 8 := by omega
  have h12 := hR.2.2.2 t ht
  obtain ⟨e7, ⟨⟨g3, w1, w2⟩, w3⟩⟩ := s7 t t8
  rw [gm_in ht] at w1 w2 w3
  refine V.loc (L' := [some (.ref (A 0)), some (.ref (qo q)), some (.int x), none, none, some (.int (nI t)), some (.ref (qla q t)), some (.int (nI (gn σ t))), some (.int (nI l)), none, none, none, none, none, none, none, none, none, none]) (fun j v hv => by
    match j, hv with
    | 0, hv => exact hv
    | 1, hv => exact hv
    | 2, hv => exact hv
    | 3, hv => cases hv
    | 4, hv => cases hv
    | 5, hv => exact hv
    | 6, hv => exact hv
    | 7, hv => exact hv
    | 8, hv => exact hv
    | 9, hv => cases hv
    | 10, hv => cases hv
    | 11, hv => cases hv
    | 12, hv => cases hv
    | 13, hv => cases hv
    | 14, hv => cases hv
    | 15, hv => cases hv
    | 16, hv => cases hv
    | 17, hv => cases hv
    | 18, hv => cases hv
    | zz + 19, hv => cases hv) ?_
  refine V.run hF [(.iload 7, 2, .null)] (pc' := 194) (L' := [some (.ref (A 0)), some (.ref (qo q)), some (.int x), none, none, some (.int (nI t)), some (.ref (qla q t)), some (.int (nI (gn σ t))), some (.int (nI l)), none, none, none, none, none, none, none, none, none, none]) (st' := [.int (nI (gn σ t))]) (by decide +kernel) rfl ?_
  refine V.if_ne hF (off := 5) (tgt := 199) (by decide +kernel) (by decide) (fun c1 => ?_) (fun c1 => ?_)
  · have hl' : l < gn σ t := hl.resolve_left fun z => c1 (by rw [z]; rfl)
    obtain ⟨l1, l2, l3, l4⟩ := hR.2.2.1 t l ht hl'
    obtain ⟨fr, er, r0, r1, r2, r3⟩ := w3 l hl'
    obtain ⟨m, em, m1, m31⟩ := hA.nat ht hl'
    have nrl : qrr q t l ≠ qli q := nek er s6 nofun
    have nro : qrr q t l ≠ qo q := nek er s1 nofun
    have nla : qla q t ≠ qrr q t l := nek w1 er nofun
    refine V.run hF [(.iconst 1, 1, .int (nI 1)), (.iload_n 2, 1, .null), (.iconst 4, 1, .int 4), (.ishr, 1, .null), (.iload_n 2, 1, .null), (.iconst 3, 1, .int (nI 3))] (pc' := 205) (L' := [some (.ref (A 0)), some (.ref (qo q)), some (.int x), none, none, some (.int (nI t)), some (.ref (qla q t)), some (.int (nI (gn σ t))), some (.int (nI l)), none, none, none, none, none, none, none, none, none, none]) (st' := [.int (nI 3), .int x, .int (x >>> (4 &&& 31)), .int (nI 1)]) (by decide +kernel) rfl ?_
    refine V.callS (As := [.int x, .int (nI 3)]) (st := [.int (x >>> (4 &&& 31)), .int (nI 1)]) hG hF k_RL_15 (by decide +kernel) (c_L_below hG x (n := 3) (by omega) (by omega)) rfl ⟨by rw [hRm]; decide, by rw [hRm]; decide⟩ (Nat.le_of_ble_eq_true rfl) rfl (fun v h_1 gp1 => ?_) (fun E h9 hx => hx.elim)
    obtain ⟨rfl, he_gp1⟩ := gp1
    rw [he_gp1]
    show V G F _ _ _ 208 [some (.ref (A 0)), some (.ref (qo q)), some (.int x), none, none, some (.int (nI t)), some (.ref (qla q t)), some (.int (nI (gn σ t))), some (.int (nI l)), none, none, none, none, none, none, none, none, none, none] [.int (nI (bl x 3)), .int (x >>> (4 &&& 31)), .int (nI 1)] h
    obtain ⟨z, hz⟩ : ∃ z : Nat, z = bl x 3 := ⟨_, rfl⟩
    rw [← hz]
    have lt_z : z < 3 := by rw [hz]; exact Nat.mod_lt _ (by omega)
    have rest : ∀ n, 1 ≤ n → n ≤ m → V G F (fin G F (actP (A 0) (qo q) S Y) pxN) 400 400 237 [some (.ref (A 0)), some (.ref (qo q)), some (.int x), none, none, some (.int (nI t)), some (.ref (qla q t)), some (.int (nI (gn σ t))), some (.int (nI l)), none, none, none, none, none, none, none, none, none, none] [.int (nI n)] h := by
      intro n n1 nm
      refine V.run hF [(.istore 10, 2, .null), (.aload 6, 2, .null), (.iload 8, 2, .null)] (pc' := 243) (L' := [some (.ref (A 0)), some (.ref (qo q)), some (.int x), none, none, some (.int (nI t)), some (.ref (qla q t)), some (.int (nI (gn σ t))), some (.int (nI l)), none, some (.int (nI n)), none, none, none, none, none, none, none, none]) (st' := [.int (nI l), .ref (qla q t)]) (by decide +kernel) rfl ?_
      refine V.aaldS (j := l) (b := (qrr q t l)) hG hF (by decide +kernel) w1 (by omega) (by first | decide | omega) (w2 l hl') ?_
      refine V.run hF [(.iconst 2, 1, .int (nI 2))] (pc' := 245) (L' := [some (.ref (A 0)), some (.ref (qo q)), some (.int x), none, none, some (.int (nI t)), some (.ref (qla q t)), some (.int (nI (gn σ t))), some (.int (nI l)), none, some (.int (nI n)), none, none, none, none, none, none, none, none]) (st' := [.int (nI 2), .ref (qrr q t l)]) (by decide +kernel) rfl ?_
      refine V.ialdN (j := 2) hG hF (by decide +kernel) er (by omega) (by first | decide | omega) ?_
      rw [r2, em]
      refine V.run hF [(.iload 10, 2, .null), (.isub, 1, .null)] (pc' := 249) (L' := [some (.ref (A 0)), some (.ref (qo q)), some (.int x), none, none, some (.int (nI t)), some (.ref (qla q t)), some (.int (nI (gn σ t))), some (.int (nI l)), none, some (.int (nI n)), none, none, none, none, none, none, none, none]) (st' := [.int (nI m - nI n)]) (by decide +kernel) rfl ?_
      rw [nI_sb nm]
      refine V.run hF [(.istore 11, 2, .null), (.aload 6, 2, .null), (.iload 8, 2, .null)] (pc' := 255) (L' := [some (.ref (A 0)), some (.ref (qo q)), some (.int x), none, none, some (.int (nI t)), some (.ref (qla q t)), some (.int (nI (gn σ t))), some (.int (nI l)), none, some (.int (nI n)), some (.int (nI (m - n))), none, none, none, none, none, none, none]) (st' := [.int (nI l), .ref (qla q t)]) (by decide +kernel) rfl ?_
      refine V.aaldS (j := l) (b := (qrr q t l)) hG hF (by decide +kernel) w1 (by omega) (by first | decide | omega) (w2 l hl') ?_
      refine V.run hF [(.iconst 2, 1, .int (nI 2)), (.iload 11, 2, .null)] (pc' := 259) (L' := [some (.ref (A 0)), some (.ref (qo q)), some (.int x), none, none, some (.int (nI t)), some (.ref (qla q t)), some (.int (nI (gn σ t))), some (.int (nI l)), none, some (.int (nI n)), some (.int (nI (m - n))), none, none, none, none, none, none, none]) (st' := [.int (nI (m - n)), .int (nI 2), .ref (qrr q t l)]) (by decide +kernel) rfl ?_
      refine V.iastN (j := 2) hG hF (by decide +kernel) er (by omega) (by first | decide | omega) ?_
      obtain ⟨h_2, gh2⟩ : ∃ z : Hp, z = hset h (qrr q t l) (.inl (0, 4, .inl (upd fr 2 (nI (m - n))))) := ⟨_, rfl⟩
      refine V.hp gh2 ?_
      have gk2 : ∀ zq : Nat, zq ≠ (qrr q t l) → h_2 zq = h zq := fun zq hq => by rw [gh2]; exact hset_ne hq
      have gs2 : h_2 (qrr q t l) = some (.inl (0, 4, .inl (upd fr 2 (nI (m - n))))) := by rw [gh2]; exact hset_eq
      have ew1 : Exw (qrr q t l) h h_2 := Exw.of (fun y hy => gk2 y hy)
      have eX : gM σ t l - nI n = nI (m - n) := by rw [em, nI_sb nm]
      have hS1 := hS.row ht hT8 hl' gs2 (show upd fr 2 (nI (m - n)) 0 = gDD σ t l from r0) (show upd fr 2 (nI (m - n)) 1 = gC σ t l from r1) (show upd fr 2 (nI (m - n)) 2 = nI (m - n) from rfl) (show upd fr 2 (nI (m - n)) 3 = gW σ t l from r3) ew1
      have hC1 := hC.exw ew1 (hS.o8 hC t8 (by rw [gm_in ht]; exact hl'))
      have q1 : okL σ (nI t) (nI l) := ⟨t, l, ht, hl', rfl, rfl⟩
      have q2 : py2 σ (nI t) (nI l) (nI n) := by
        refine ⟨fun e => by
          have := (nI_ltI (a := n) (b := 1) (by omega) (by decide)).mp e
          omega, ?_⟩
        unfold am
        rw [nI_clamp (show t < 2 ^ 31 by omega), nI_clamp (show l < 2 ^ 31 by omega), em]
        exact (nI_leI (by omega) (by omega)).mpr nm
      obtain ⟨h1, eh1⟩ : ∃ z : Hp, z = h_2 := ⟨_, rfl⟩
      rw [← eh1] at hS1 hC1
      -- the class's call
      have tail : ∀ (hh : Hp) (q' : QA), qo q' = qo q → SM hh q' (sPay σ t l (nI n)) → CS hh A σ P r → SO A q' → V G F (fin G F (actP (A 0) (qo q) S Y) pxN) 300 300 279 [some (.ref (A 0)), some (.ref (qo q)), some (.int x), none, none, some (.int (nI t)), some (.ref (qla q t)), some (.int (nI (gn σ t))), some (.int (nI l)), none, some (.int (nI n)), some (.int (nI (m - n))), none, none, none, none, none, none, none] [] hh := by
        intro hh q' eq' hS2 hC2 hO2
        obtain ⟨-, -, gA2, -⟩ := id hC2
        refine V.run hF [(.aload_n 0, 1, .null), (.iload 5, 2, .null), (.iload 8, 2, .null), (.iload 10, 2, .null)] (pc' := 286) (L' := [some (.ref (A 0)), some (.ref (qo q)), some (.int x), none, none, some (.int (nI t)), some (.ref (qla q t)), some (.int (nI (gn σ t))), some (.int (nI l)), none, some (.int (nI n)), some (.int (nI (m - n))), none, none, none, none, none, none, none]) (st' := [.int (nI n), .int (nI l), .int (nI t), .ref (A 0)]) (by decide +kernel) rfl ?_
        refine V.less (kc' := 297 + 3) (ks' := 282 + 18) (by decide) (by decide) ?_
        refine V.callV (As := [.int (nI t), .int (nI l), .int (nI n)]) (st := []) hG hF k_RL_44 (by decide +kernel) (c_X3_pay hG hC2 (nI t) (nI l) (nI n)) gA2 rfl rfl ⟨by rw [hRm]; decide, by rw [hRm]; decide⟩ (Nat.le_of_ble_eq_true rfl) rfl (fun v4 h4 hp4 => ?_) (fun E h9 hx => (hx.1.elim (fun z => z.2 q1) (fun z => z.elim (fun z => z.2.2 q2) (fun z => z.2.2.2 trivial))).elim)
        obtain ⟨-, -, t', l', ht', hl9, et, el, hv4, hC4, hk4⟩ := hp4
        have et : t = t' := (nI_eq (by omega) (by omega)).mp et
        subst et
        have el : l = l' := (nI_eq (by omega) (by omega)).mp el
        subst el
        have hS4 := hS2.kp hC2 hO2 hk4
        rw [hv4, eX]
        show V G F _ _ _ 289 [some (.ref (A 0)), some (.ref (qo q)), some (.int x), none, none, some (.int (nI t)), some (.ref (qla q t)), some (.int (nI (gn σ t))), some (.int (nI l)), none, some (.int (nI n)), some (.int (nI (m - n))), none, none, none, none, none, none, none] [.int (nI (m - n))] h4
        refine V.run hF [(.iload 11, 2, .null)] (pc' := 291) (L' := [some (.ref (A 0)), some (.ref (qo q)), some (.int x), none, none, some (.int (nI t)), some (.ref (qla q t)), some (.int (nI (gn σ t))), some (.int (nI l)), none, some (.int (nI n)), some (.int (nI (m - n))), none, none, none, none, none, none, none]) (st' := [.int (nI (m - n)), .int (nI (m - n))]) (by decide +kernel) rfl ?_
        refine V.icmp_ne hF (off := 7) (tgt := 298) (by decide +kernel) (by decide) (fun c7 => ?_) (fun c7 => ?_)
        · exact absurd rfl c7
        · skip
          refine V.run hF [(.iconst 1, 1, .int 1), (.goto 4, 3, .null)] (pc' := 299) (L' := [some (.ref (A 0)), some (.ref (qo q)), some (.int x), none, none, some (.int (nI t)), some (.ref (qla q t)), some (.int (nI (gn σ t))), some (.int (nI l)), none, some (.int (nI n)), some (.int (nI (m - n))), none, none, none, none, none, none, none]) (st' := [.int 1]) (by decide +kernel) rfl ?_
          exact V.retz hF (by decide +kernel) rfl ⟨rfl, A, q', _, _, _, rfl, eq', hC4, hS4, hO2, hR.py ht hl', (hA.py ht hl' q2.1 (by rw [em]; exact (nI_leI (by omega) (by omega)).mpr nm)).up (by omega), Nat.le_trans (show gy (sPay σ t l (nI n)) ≤ gy σ by unfold sPay; split <;> exact Nat.le_refl _) (Nat.le_trans hgy (Nat.le_add_right _ _))⟩
      refine V.run hF [(.iload 11, 2, .null)] (pc' := 262) (L' := [some (.ref (A 0)), some (.ref (qo q)), some (.int x), none, none, some (.int (nI t)), some (.ref (qla q t)), some (.int (nI (gn σ t))), some (.int (nI l)), none, some (.int (nI n)), some (.int (nI (m - n))), none, none, none, none, none, none, none]) (st' := [.int (nI (m - n))]) (by decide +kernel) rfl ?_
      refine V.if_ne hF (off := 17) (tgt := 279) (by decide +kernel) (by decide) (fun c2 => ?_) (fun c2 => ?_)
      · refine V.less (kc' := 300) (ks' := 300) (by decide) (by decide) ?_
        rw [← eh1]
        have hnz : ¬ gM σ t l - nI n = 0 := by rw [eX]; exact c2
        refine tail h1 q rfl ?_ hC1 hO
        rw [sPay, if_neg hnz, eX]
        exact hS1
      · skip
        have hz : gM σ t l - nI n = 0 := by rw [eX]; exact c2
        obtain ⟨k9, ek⟩ : ∃ k, gn σ t = k + 1 := ⟨gn σ t - 1, by omega⟩
        have kx : ∀ y, y ≠ qrr q t l → h1 y = h y := fun y hy => by rw [eh1]; exact gk2 y hy
        have w1' : h1 (qla q t) = some (.inl (2, k9 + 1, .inr (.inr (.inr (.inr g3))))) := by rw [← ek]; exact (kx _ nla).trans w1
        have rowx : ∀ j, j < gn σ t → ∃ y, h1 (qrr q t j) = some (.inl (0, y)) := fun j hj => by
          obtain ⟨f, e2, -⟩ := w3 j hj
          by_cases z : qrr q t j = qrr q t l
          · rw [z, eh1]
            exact ⟨_, gs2⟩
          · exact ⟨_, (kx _ z).trans e2⟩
        have s6' : h1 (qli q) = some (.inl (4, 8, .inr (.inr (.inr (.inr g2))))) := (kx _ (Ne.symm nrl)).trans s6
        have no1 : qo q ≠ qrr q t l := Ne.symm nro
        refine V.run hF [(.aload_n 1, 1, .null)] (pc' := 266) (L' := [some (.ref (A 0)), some (.ref (qo q)), some (.int x), none, none, some (.int (nI t)), some (.ref (qla q t)), some (.int (nI (gn σ t))), some (.int (nI l)), none, some (.int (nI n)), some (.int (nI (m - n))), none, none, none, none, none, none, none]) (st' := [.ref (qo q)]) (by decide +kernel) rfl ?_
        have gf4 : h_2 (qo q) = some (.inr (4, [.ref (qth q), .ref (qhe q), .ref (qta q), .ref (qli q), .int (nI (gy σ)), .int (gme σ), .int (gde σ)])) := (gk2 (qo q) (by first | assumption | exact Ne.symm (by assumption) | omega)).trans s1
        refine V.getf hG hF k_RL_31 (by decide +kernel) gf4 rfl ?_
        refine V.run hF [(.iload 5, 2, .null), (.aload 6, 2, .null), (.iload 8, 2, .null)] (pc' := 275) (L' := [some (.ref (A 0)), some (.ref (qo q)), some (.int x), none, none, some (.int (nI t)), some (.ref (qla q t)), some (.int (nI (gn σ t))), some (.int (nI l)), none, some (.int (nI n)), some (.int (nI (m - n))), none, none, none, none, none, none, none]) (st' := [.int (nI l), .ref (qla q t), .int (nI t), .ref (qli q)]) (by decide +kernel) rfl ?_
        refine V.less (kc' := 399 + 1) (ks' := 388 + 12) (by decide) (by decide) ?_
        rw [← eh1]
        refine V.callS (As := [.ref (qla q t), .int (nI l)]) (st := [.int (nI t), .ref (qli q)]) hG hF k_RL_40 (by decide +kernel) (c_X4_without (a := qla q t) (m := k9) (k := l) (g := g3) hG w1' (fun j hj => by obtain ⟨y, hy⟩ := rowx j (by omega); exact ⟨qrr q t j, y, w2 j (by omega), hy⟩) (by omega) (by omega)) rfl ⟨by rw [hRm]; decide, by rw [hRm]; decide⟩ (Nat.le_of_ble_eq_true rfl) rfl (fun v h3 hp3 => ?_) (fun E h9 hx => hx.elim)
        obtain ⟨na, g', hv, a1, a2, a3, a4⟩ := hp3
        rw [hv]
        have x3 : Ex h1 h3 := Ex.new a1 a4
        show V G F _ _ _ 278 [some (.ref (A 0)), some (.ref (qo q)), some (.int x), none, none, some (.int (nI t)), some (.ref (qla q t)), some (.int (nI (gn σ t))), some (.int (nI l)), none, some (.int (nI n)), some (.int (nI (m - n))), none, none, none, none, none, none, none] [.ref na, .int (nI t), .ref (qli q)] h3
        refine V.aastAN (j := t) hG hF (by decide) (by decide +kernel) (x3 _ _ s6') a2 (by omega) (by first | decide | omega) ?_
        obtain ⟨h_6, gh6⟩ : ∃ z : Hp, z = hset h3 (qli q) (.inl (4, 8, .inr (.inr (.inr (.inr (va_up g2 t (some na))))))) := ⟨_, rfl⟩
        refine V.hp gh6 ?_
        have gk6 : ∀ zq : Nat, zq ≠ (qli q) → h_6 zq = h3 zq := fun zq hq => by rw [gh6]; exact hset_ne hq
        have gs6 : h_6 (qli q) = some (.inl (4, 8, .inr (.inr (.inr (.inr (va_up g2 t (some na))))))) := by rw [gh6]; exact hset_eq
        have ew : Exw (qli q) h1 h_6 := fun y cc hcc hy => (gk6 y hy).trans (x3 y cc hcc)
        have nna : na ≠ qli q := nek a2 (x3 _ _ s6') nofun
        have ixl : ∀ j, j < gn σ t - 1 → (if j < l then j else j + 1) < gn σ t := fun j hj => by split <;> omega
        have egn : gn (sLess σ t l (nI (m - n))) t = gn σ t := va_up_self _ _ _
        have hS2 := SM.lines (h0 := h1) (a := na) (n := gn σ t - 1) (R := fun j => qrr q t (if j < l then j else j + 1)) (D := shk l (gn σ t - 1 - l) (gDD σ t)) (C := shk l (gn σ t - 1 - l) (gC σ t)) (M := shk l (gn σ t - 1 - l) (gM σ t)) (W := shk l (gn σ t - 1 - l) (gW σ t)) hS1 ht hT8 s6' gs6 (by
          refine ⟨⟨g', by rw [show gn σ t - 1 = k9 by omega]; exact (gk6 _ nna).trans a2, fun j hj => ?_⟩, fun j hj => ?_⟩
          · rw [a3 j (by omega)]
            exact w2 _ (ixl j hj)
          · rw [shk_at hl' hj, shk_at hl' hj, shk_at hl' hj, shk_at hl' hj]
            obtain ⟨f, e1, e2⟩ := w3 _ (ixl j hj)
            have nj : qrr q t (if j < l then j else j + 1) ≠ qrr q t l := fun e => by
              have := (s9 t t _ _ t8 t8 (by rw [gm_in ht]; exact ixl j hj) (by rw [gm_in ht]; exact hl') e).2
              split at this <;> omega
            exact ⟨f, ew _ _ ((kx _ nj).trans e1) (nek e1 s6 nofun), e2⟩) ew (fun i j hi hj e => by
          have := (s9 t t _ _ t8 t8 (by rw [gm_in ht]; exact ixl i hi) (by rw [gm_in ht]; exact ixl j hj) e).2
          split at this <;> split at this <;> omega) (fun j hj => Or.inr ⟨_, by rw [egn]; exact ixl j hj, rfl⟩) hS1
        have hC2 := hC1.exw ew (hS1.o6 hC1)
        have eT : sTab (sLess σ t l (nI (m - n))) t (gha (sLess σ t l (nI (m - n))) t) (gce (sLess σ t l (nI (m - n))) t) (gn σ t - 1) (shk l (gn σ t - 1 - l) (gDD σ t)) (shk l (gn σ t - 1 - l) (gC σ t)) (shk l (gn σ t - 1 - l) (gM σ t)) (shk l (gn σ t - 1 - l) (gW σ t)) = sPay σ t l (nI n) := by
          rw [sPay, if_pos hz, show gha (sLess σ t l (nI (m - n))) t = gha σ t from va_up_self _ _ _, show gce (sLess σ t l (nI (m - n))) t = gce σ t from va_up_self _ _ _]
          exact sTab_tab
        rw [eT] at hS2
        refine V.less (kc' := 300) (ks' := 300) (by decide) (by decide) ?_
        exact tail _ (qlines q t na (fun j => qrr q t (if j < l then j else j + 1))) rfl hS2 hC2 hO
    refine V.if_ne hF (off := 13) (tgt := 221) (by decide +kernel) (by decide) (fun cz => ?_) (fun cz => ?_)
    · skip
      refine V.run hF [(.bipush 9, 2, .int (nI 9)), (.aload 6, 2, .null)] (pc' := 225) (L' := [some (.ref (A 0)), some (.ref (qo q)), some (.int x), none, none, some (.int (nI t)), some (.ref (qla q t)), some (.int (nI (gn σ t))), some (.int (nI l)), none, none, none, none, none, none, none, none, none, none]) (st' := [.ref (qla q t), .int (nI 9), .int (x >>> (4 &&& 31)), .int (nI 1)]) (by decide +kernel) rfl ?_
      refine V.run hF [(.iload 8, 2, .null)] (pc' := 227) (L' := [some (.ref (A 0)), some (.ref (qo q)), some (.int x), none, none, some (.int (nI t)), some (.ref (qla q t)), some (.int (nI (gn σ t))), some (.int (nI l)), none, none, none, none, none, none, none, none, none, none]) (st' := [.int (nI l), .ref (qla q t), .int (nI 9), .int (x >>> (4 &&& 31)), .int (nI 1)]) (by decide +kernel) rfl ?_
      refine V.aaldS (j := l) (b := (qrr q t l)) hG hF (by decide +kernel) w1 (by omega) (by first | decide | omega) (w2 l hl') ?_
      refine V.run hF [(.iconst 2, 1, .int (nI 2))] (pc' := 229) (L' := [some (.ref (A 0)), some (.ref (qo q)), some (.int x), none, none, some (.int (nI t)), some (.ref (qla q t)), some (.int (nI (gn σ t))), some (.int (nI l)), none, none, none, none, none, none, none, none, none, none]) (st' := [.int (nI 2), .ref (qrr q t l), .int (nI 9), .int (x >>> (4 &&& 31)), .int (nI 1)]) (by decide +kernel) rfl ?_
      refine V.ialdN (j := 2) hG hF (by decide +kernel) er (by omega) (by first | decide | omega) ?_
      rw [r2, em]
      refine V.mmin hG hF tw_490 tw_mm1 tw_mm2 tw_mm3 (by decide +kernel) ⟨by rw [hRm]; decide, by rw [hRm]; exact Nat.le_of_ble_eq_true rfl⟩ ?_
      have emin : (if nI m < nI 9 then nI m else nI 9) = nI (min m 9) := by
        by_cases z : m < 9
        · rw [if_pos ((nI_ltI (a := m) (b := 9) (by omega) (by decide)).mpr z), Nat.min_eq_left (by omega)]
        · rw [if_neg (fun e => z ((nI_ltI (a := m) (b := 9) (by omega) (by decide)).mp e)), Nat.min_eq_right (by omega)]
      rw [emin]
      refine V.callS (As := [.int (x >>> (4 &&& 31)), .int (nI (min m 9))]) (st := [.int (nI 1)]) hG hF k_RL_15 (by decide +kernel) (c_L_below hG (x >>> (4 &&& 31)) (n := min m 9) (by omega) (by omega)) rfl ⟨by rw [hRm]; decide, by rw [hRm]; decide⟩ (Nat.le_of_ble_eq_true rfl) rfl (fun v h_7 gp7 => ?_) (fun E h9 hx => hx.elim)
      obtain ⟨rfl, he_gp7⟩ := gp7
      rw [he_gp7]
      show V G F _ _ _ 236 [some (.ref (A 0)), some (.ref (qo q)), some (.int x), none, none, some (.int (nI t)), some (.ref (qla q t)), some (.int (nI (gn σ t))), some (.int (nI l)), none, none, none, none, none, none, none, none, none, none] [.int (nI (bl (x >>> (4 &&& 31)) (min m 9))), .int (nI 1)] h
      obtain ⟨y, hy⟩ : ∃ z : Nat, z = bl (x >>> (4 &&& 31)) (min m 9) := ⟨_, rfl⟩
      rw [← hy]
      have lt_y : y < min m 9 := by rw [hy]; exact Nat.mod_lt _ (by omega)
      refine V.run hF [(.iadd, 1, .null)] (pc' := 237) (L' := [some (.ref (A 0)), some (.ref (qo q)), some (.int x), none, none, some (.int (nI t)), some (.ref (qla q t)), some (.int (nI (gn σ t))), some (.int (nI l)), none, none, none, none, none, none, none, none, none, none]) (st' := [.int (nI 1 + nI y)]) (by decide +kernel) rfl ?_
      rw [nI_add 1 y]
      exact rest (1 + y) (by omega) (by omega)
    · skip
      refine V.run hF [(.aload 6, 2, .null), (.iload 8, 2, .null)] (pc' := 215) (L' := [some (.ref (A 0)), some (.ref (qo q)), some (.int x), none, none, some (.int (nI t)), some (.ref (qla q t)), some (.int (nI (gn σ t))), some (.int (nI l)), none, none, none, none, none, none, none, none, none, none]) (st' := [.int (nI l), .ref (qla q t), .int (x >>> (4 &&& 31)), .int (nI 1)]) (by decide +kernel) rfl ?_
      refine V.aaldS (j := l) (b := (qrr q t l)) hG hF (by decide +kernel) w1 (by omega) (by first | decide | omega) (w2 l hl') ?_
      refine V.run hF [(.iconst 2, 1, .int (nI 2))] (pc' := 217) (L' := [some (.ref (A 0)), some (.ref (qo q)), some (.int x), none, none, some (.int (nI t)), some (.ref (qla q t)), some (.int (nI (gn σ t))), some (.int (nI l)), none, none, none, none, none, none, none, none, none, none]) (st' := [.int (nI 2), .ref (qrr q t l), .int (x >>> (4 &&& 31)), .int (nI 1)]) (by decide +kernel) rfl ?_
      refine V.ialdN (j := 2) hG hF (by decide +kernel) er (by omega) (by first | decide | omega) ?_
      rw [r2, em]
      refine V.run hF [(.goto 15, 3, .null)] (pc' := 233) (L' := [some (.ref (A 0)), some (.ref (qo q)), some (.int x), none, none, some (.int (nI t)), some (.ref (qla q t)), some (.int (nI (gn σ t))), some (.int (nI l)), none, none, none, none, none, none, none, none, none, none]) (st' := [.int (nI m), .int (x >>> (4 &&& 31)), .int (nI 1)]) (by decide +kernel) rfl ?_
      refine V.callS (As := [.int (x >>> (4 &&& 31)), .int (nI m)]) (st := [.int (nI 1)]) hG hF k_RL_15 (by decide +kernel) (c_L_below hG (x >>> (4 &&& 31)) (n := m) (by omega) (by omega)) rfl ⟨by rw [hRm]; decide, by rw [hRm]; decide⟩ (Nat.le_of_ble_eq_true rfl) rfl (fun v h_8 gp8 => ?_) (fun E h9 hx => hx.elim)
      obtain ⟨rfl, he_gp8⟩ := gp8
      rw [he_gp8]
      show V G F _ _ _ 236 [some (.ref (A 0)), some (.ref (qo q)), some (.int x), none, none, some (.int (nI t)), some (.ref (qla q t)), some (.int (nI (gn σ t))), some (.int (nI l)), none, none, none, none, none, none, none, none, none, none] [.int (nI (bl (x >>> (4 &&& 31)) m)), .int (nI 1)] h
      obtain ⟨y, hy⟩ : ∃ z : Nat, z = bl (x >>> (4 &&& 31)) m := ⟨_, rfl⟩
      rw [← hy]
      have lt_y : y < m := by rw [hy]; exact Nat.mod_lt _ (by omega)
      refine V.run hF [(.iadd, 1, .null)] (pc' := 237) (L' := [some (.ref (A 0)), some (.ref (qo q)), some (.int x), none, none, some (.int (nI t)), some (.ref (qla q t)), some (.int (nI (gn σ t))), some (.int (nI l)), none, none, none, none, none, none, none, none, none, none]) (st' := [.int (nI 1 + nI y)]) (by decide +kernel) rfl ?_
      rw [nI_add 1 y]
      exact rest (1 + y) (by omega) (by omega)
  · skip
    refine V.run hF [(.iconst 1, 1, .int 1)] (pc' := 198) (L' := [some (.ref (A 0)), some (.ref (qo q)), some (.int x), none, none, some (.int (nI t)), some (.ref (qla q t)), some (.int (nI (gn σ t))), some (.int (nI l)), none, none, none, none, none, none, none, none, none, none]) (st' := [.int 1]) (by decide +kernel) rfl ?_
    exact V.retz hF (by decide +kernel) rfl ⟨rfl, A, q, _, _, _, rfl, rfl, hC, hS, hO, hR, hA.up (by omega), Nat.le_trans hgy (Nat.le_add_right _ _)⟩
end Ag
