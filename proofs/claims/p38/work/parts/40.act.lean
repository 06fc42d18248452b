/-! ===== the law's act, case by case ===== -/
/-- class and Sim lie apart and have one state, that keeps the rules -/
def IV (S : Int) (Y a o : Nat) (h : Hp) : Prop := ∃ (A : Nat → Nat) (q : QA) (σ : Sg) (P : PS) (r : Nat → Int32), A 0 = a ∧ qo q = o ∧ CS h A σ P r ∧ SM h q σ ∧ SO A q ∧ RI σ ∧ Am σ S ∧ gy σ ≤ Y
abbrev actP (a o : Nat) (S : Int) (Y : Nat) : Option Value → Hp → Prop := fun v h' => v = some (.int 1) ∧ IV (S + 999) (Y + 40) a o h'
theorem ng_sub {x : Int32} (h : b01 x) : 1 - x = ng x := by
  rcases h with rfl | rfl <;> decide +kernel
theorem ng_e {x : Int32} (h : b01 x) : (ng x = 1) = (x = 0) := by
  rcases h with rfl | rfl <;> decide +kernel
section Ac
variable {G : Gt} {h : Hp} {A : Nat → Nat} {q : QA} {σ : Sg} {P : PS} {r : Nat → Int32} {S : Int} {Y : Nat} {x : Int32} {F : Ft}
abbrev acR (F : Ft) : Prop := fR F = { frames := 9, cells := 400, slots := 400, locals := 160 }
set_option maxHeartbeats 4000000 in
theorem ac_turn (hG : GOk G) (hF : Ok G F RL cL_act 19 (some .boolean)) (hRm : acR F) (hC : CS h A σ P r) (hS : SM h q σ) (hO : SO A q) (hR : RI σ) (hA : Am σ S) (hgy : gy σ ≤ Y) {p : Nat} (hp : p < 8) {L3 L4 L5 L6 L7 L8 : Option Value} :
    V G F (fin G F (actP (A 0) (qo q) S Y) pxN) 400 400 441 [some (.ref (A 0)), some (.ref (qo q)), some (.int x), L3, L4, L5, L6, L7, L8, some (.int (nI p)), none, none, none, none, none, none, none, none, none] [] h := by
  obtain ⟨s1, s2, -⟩ := id hS
  have hz := hR.1 p hp
  refine V.loc (L' := [some (.ref (A 0)), some (.ref (qo q)), some (.int x), none, none, none, none, none, none, some (.int (nI p)), none, none, none, none, none, none, none, none, none]) (fun j v hv => by
    match j, hv with
    | 0, hv => exact hv
    | 1, hv => exact hv
    | 2, hv => exact hv
    | 3, hv => cases hv
    | 4, hv => cases hv
    | 5, hv => cases hv
    | 6, hv => cases hv
    | 7, hv => cases hv
    | 8, hv => cases hv
    | 9, hv => exact hv
    | 10, hv => cases hv
    | 11, hv => cases hv
    | 12, hv => cases hv
    | 13, hv => cases hv
    | 14, hv => cases hv
    | 15, hv => cases hv
    | 16, hv => cases hv
    | 17, hv => cases hv
    | 18, hv => cases hv
    | zz + 19, hv => cases hv) ?_
  refine V.run hF [(.aload_n 1, 1, .null)] (pc' := 442) (L' := [some (.ref (A 0)), some (.ref (qo q)), some (.int x), none, none, none, none, none, none, some (.int (nI p)), none, none, none, none, none, none, none, none, none]) (st' := [.ref (qo q)]) (by decide +kernel) rfl ?_
  refine V.getf hG hF k_RL_48 (by decide +kernel) s1 rfl ?_
  refine V.run hF [(.iload 9, 2, .null), (.aload_n 1, 1, .null)] (pc' := 448) (L' := [some (.ref (A 0)), some (.ref (qo q)), some (.int x), none, none, none, none, none, none, some (.int (nI p)), none, none, none, none, none, none, none, none, none]) (st' := [.ref (qo q), .int (nI p), .ref (qth q)]) (by decide +kernel) rfl ?_
  refine V.getf hG hF k_RL_48 (by decide +kernel) s1 rfl ?_
  refine V.run hF [(.iload 9, 2, .null)] (pc' := 453) (L' := [some (.ref (A 0)), some (.ref (qo q)), some (.int x), none, none, none, none, none, none, some (.int (nI p)), none, none, none, none, none, none, none, none, none]) (st' := [.int (nI p), .ref (qth q), .int (nI p), .ref (qth q)]) (by decide +kernel) rfl ?_
  refine V.zaldN (j := p) hG hF (by decide +kernel) s2 (by omega) (by first | decide | omega) ?_
  refine V.if_ne hF (off := 7) (tgt := 461) (by decide +kernel) (by decide) (fun c1 => ?_) (fun c1 => ?_)
  · skip
    refine V.run hF [(.iconst 0, 1, .int 0)] (pc' := 462) (L' := [some (.ref (A 0)), some (.ref (qo q)), some (.int x), none, none, none, none, none, none, some (.int (nI p)), none, none, none, none, none, none, none, none, none]) (st' := [.int 0, .int (nI p), .ref (qth q)]) (by decide +kernel) rfl ?_
    refine V.zastN (j := p) hG hF (by decide +kernel) s2 (by omega) (by first | decide | omega) rfl ?_
    obtain ⟨h_1, gh1⟩ : ∃ z : Hp, z = hset h (qth q) (.inl (1, 8, .inl (upd (gth σ) p 0))) := ⟨_, rfl⟩
    refine V.hp gh1 ?_
    have gk1 : ∀ zq : Nat, zq ≠ (qth q) → h_1 zq = h zq := fun zq hq => by rw [gh1]; exact hset_ne hq
    have gs1 : h_1 (qth q) = some (.inl (1, 8, .inl (upd (gth σ) p 0))) := by rw [gh1]; exact hset_eq
    have en : ng (gth σ p) = 0 := (if_neg c1)
    have ew : Exw (qth q) h h_1 := Exw.of (fun x hx => gk1 x hx)
    have hS2 := hS.th (th := upd (gth σ) p 0) gs1 ew
    have hC2 := hC.exw ew (hS.o2 hC hO)
    have _ := 0
    obtain ⟨-, -, gA2, -⟩ := id hC2
    refine V.run hF [(.aload_n 0, 1, .null), (.iload 9, 2, .null)] (pc' := 466) (L' := [some (.ref (A 0)), some (.ref (qo q)), some (.int x), none, none, none, none, none, none, some (.int (nI p)), none, none, none, none, none, none, none, none, none]) (st' := [.int (nI p), .ref (A 0)]) (by decide +kernel) rfl ?_
    refine V.less (kc' := 399 + 1) (ks' := 394 + 6) (by decide) (by decide) ?_
    refine V.callV (As := [.int (nI p)]) (st := []) hG hF k_RL_65 (by decide +kernel) (c_X3_turn hG hC2 (nI p)) gA2 rfl rfl ⟨by rw [hRm]; decide, by rw [hRm]; decide⟩ (Nat.le_of_ble_eq_true rfl) rfl (fun v h3 hp3 => ?_) (fun E h9 hx => (hx.2.1 (inP_nI hp)).elim)
    obtain ⟨p', hp', ep, hv, hC3, hk3⟩ := hp3
    have ep : p = p' := (nI_eq (by omega) (by omega)).mp ep
    subst ep
    have hS3 := hS2.kp hC2 hO hk3
    rw [en] at hv hC3
    rw [hv]
    obtain ⟨u1, u2, -⟩ := id hS3
    have u2 : h3 (qth q) = some (.inl (1, 8, .inl (upd (gth σ) p 0))) := u2
    show V G F _ _ _ 469 [some (.ref (A 0)), some (.ref (qo q)), some (.int x), none, none, none, none, none, none, some (.int (nI p)), none, none, none, none, none, none, none, none, none] [.int 0] h3
    refine V.run hF [(.aload_n 1, 1, .null)] (pc' := 470) (L' := [some (.ref (A 0)), some (.ref (qo q)), some (.int x), none, none, none, none, none, none, some (.int (nI p)), none, none, none, none, none, none, none, none, none]) (st' := [.ref (qo q), .int 0]) (by decide +kernel) rfl ?_
    refine V.getf hG hF k_RL_48 (by decide +kernel) u1 rfl ?_
    refine V.run hF [(.iload 9, 2, .null)] (pc' := 475) (L' := [some (.ref (A 0)), some (.ref (qo q)), some (.int x), none, none, none, none, none, none, some (.int (nI p)), none, none, none, none, none, none, none, none, none]) (st' := [.int (nI p), .ref (qth q), .int 0]) (by decide +kernel) rfl ?_
    refine V.zaldN (j := p) hG hF (by decide +kernel) u2 (by omega) (by first | decide | omega) ?_
    rw [upd_s]
    refine V.icmp_ne hF (off := 7) (tgt := 483) (by decide +kernel) (by decide) (fun c2 => ?_) (fun c2 => ?_)
    · exact absurd rfl c2
    · skip
      refine V.run hF [(.iconst 1, 1, .int 1), (.goto 4, 3, .null)] (pc' := 484) (L' := [some (.ref (A 0)), some (.ref (qo q)), some (.int x), none, none, none, none, none, none, some (.int (nI p)), none, none, none, none, none, none, none, none, none]) (st' := [.int 1]) (by decide +kernel) rfl ?_
      exact V.retz hF (by decide +kernel) rfl ⟨rfl, A, q, _, _, _, rfl, rfl, hC3, hS3, hO, hR.th (Or.inl rfl), hA.th.up (by omega), Nat.le_trans hgy (Nat.le_add_right _ _)⟩
  · skip
    refine V.run hF [(.iconst 1, 1, .int 1), (.goto 4, 3, .null)] (pc' := 462) (L' := [some (.ref (A 0)), some (.ref (qo q)), some (.int x), none, none, none, none, none, none, some (.int (nI p)), none, none, none, none, none, none, none, none, none]) (st' := [.int 1, .int (nI p), .ref (qth q)]) (by decide +kernel) rfl ?_
    refine V.zastN (j := p) hG hF (by decide +kernel) s2 (by omega) (by first | decide | omega) rfl ?_
    obtain ⟨h_3, gh3⟩ : ∃ z : Hp, z = hset h (qth q) (.inl (1, 8, .inl (upd (gth σ) p 1))) := ⟨_, rfl⟩
    refine V.hp gh3 ?_
    have gk3 : ∀ zq : Nat, zq ≠ (qth q) → h_3 zq = h zq := fun zq hq => by rw [gh3]; exact hset_ne hq
    have gs3 : h_3 (qth q) = some (.inl (1, 8, .inl (upd (gth σ) p 1))) := by rw [gh3]; exact hset_eq
    have en : ng (gth σ p) = 1 := (if_pos c1)
    have ew : Exw (qth q) h h_3 := Exw.of (fun x hx => gk3 x hx)
    have hS2 := hS.th (th := upd (gth σ) p 1) gs3 ew
    have hC2 := hC.exw ew (hS.o2 hC hO)
    have _ := 0
    obtain ⟨-, -, gA2, -⟩ := id hC2
    refine V.run hF [(.aload_n 0, 1, .null), (.iload 9, 2, .null)] (pc' := 466) (L' := [some (.ref (A 0)), some (.ref (qo q)), some (.int x), none, none, none, none, none, none, some (.int (nI p)), none, none, none, none, none, none, none, none, none]) (st' := [.int (nI p), .ref (A 0)]) (by decide +kernel) rfl ?_
    refine V.less (kc' := 399 + 1) (ks' := 394 + 6) (by decide) (by decide) ?_
    refine V.callV (As := [.int (nI p)]) (st := []) hG hF k_RL_65 (by decide +kernel) (c_X3_turn hG hC2 (nI p)) gA2 rfl rfl ⟨by rw [hRm]; decide, by rw [hRm]; decide⟩ (Nat.le_of_ble_eq_true rfl) rfl (fun v h3 hp3 => ?_) (fun E h9 hx => (hx.2.1 (inP_nI hp)).elim)
    obtain ⟨p', hp', ep, hv, hC3, hk3⟩ := hp3
    have ep : p = p' := (nI_eq (by omega) (by omega)).mp ep
    subst ep
    have hS3 := hS2.kp hC2 hO hk3
    rw [en] at hv hC3
    rw [hv]
    obtain ⟨u1, u2, -⟩ := id hS3
    have u2 : h3 (qth q) = some (.inl (1, 8, .inl (upd (gth σ) p 1))) := u2
    show V G F _ _ _ 469 [some (.ref (A 0)), some (.ref (qo q)), some (.int x), none, none, none, none, none, none, some (.int (nI p)), none, none, none, none, none, none, none, none, none] [.int 1] h3
    refine V.run hF [(.aload_n 1, 1, .null)] (pc' := 470) (L' := [some (.ref (A 0)), some (.ref (qo q)), some (.int x), none, none, none, none, none, none, some (.int (nI p)), none, none, none, none, none, none, none, none, none]) (st' := [.ref (qo q), .int 1]) (by decide +kernel) rfl ?_
    refine V.getf hG hF k_RL_48 (by decide +kernel) u1 rfl ?_
    refine V.run hF [(.iload 9, 2, .null)] (pc' := 475) (L' := [some (.ref (A 0)), some (.ref (qo q)), some (.int x), none, none, none, none, none, none, some (.int (nI p)), none, none, none, none, none, none, none, none, none]) (st' := [.int (nI p), .ref (qth q), .int 1]) (by decide +kernel) rfl ?_
    refine V.zaldN (j := p) hG hF (by decide +kernel) u2 (by omega) (by first | decide | omega) ?_
    rw [upd_s]
    refine V.icmp_ne hF (off := 7) (tgt := 483) (by decide +kernel) (by decide) (fun c2 => ?_) (fun c2 => ?_)
    · exact absurd rfl c2
    · skip
      refine V.run hF [(.iconst 1, 1, .int 1), (.goto 4, 3, .null)] (pc' := 484) (L' := [some (.ref (A 0)), some (.ref (qo q)), some (.int x), none, none, none, none, none, none, some (.int (nI p)), none, none, none, none, none, none, none, none, none]) (st' := [.int 1]) (by decide +kernel) rfl ?_
      exact V.retz hF (by decide +kernel) rfl ⟨rfl, A, q, _, _, _, rfl, rfl, hC3, hS3, hO, hR.th (Or.inr rfl), hA.th.up (by omega), Nat.le_trans hgy (Nat.le_add_right _ _)⟩
set_option maxHeartbeats 4000000 in
theorem ac_carry (hG : GOk G) (hF : Ok G F RL cL_act 19 (some .boolean)) (hRm : acR F) (hC : CS h A σ P r) (hS : SM h q σ) (hO : SO A q) (hR : RI σ) (hA : Am σ S) (hgy : gy σ ≤ Y) {t : Nat} (ht : t < gT σ) {L3 L4 L6 L7 L8 L9 : Option Value} :
    V G F (fin G F (actP (A 0) (qo q) S Y) pxN) 400 400 485 [some (.ref (A 0)), some (.ref (qo q)), some (.int x), L3, L4, some (.int (nI t)), L6, L7, L8, L9, none, none, none, none, none, none, none, none, none] [] h := by
  obtain ⟨s1, s2, s3, ⟨g1, s4, s5⟩, -⟩ := id hS
  obtain ⟨-, hT8, -⟩ := id hC
  obtain ⟨e1, f, e2, f0, f1⟩ := s5 t ht
  have hz := hR.2.1 t ht
  refine V.loc (L' := [some (.ref (A 0)), some (.ref (qo q)), some (.int x), none, none, some (.int (nI t)), none, none, none, none, none, none, none, none, none, none, none, none, none]) (fun j v hv => by
    match j, hv with
    | 0, hv => exact hv
    | 1, hv => exact hv
    | 2, hv => exact hv
    | 3, hv => cases hv
    | 4, hv => cases hv
    | 5, hv => exact hv
    | 6, hv => cases hv
    | 7, hv => cases hv
    | 8, hv => cases hv
    | 9, hv => cases hv
    | 10, hv => cases hv
    | 11, hv => cases hv
    | 12, hv => cases hv
    | 13, hv => cases hv
    | 14, hv => cases hv
    | 15, hv => cases hv
    | 16, hv => cases hv
    | 17, hv => cases hv
    | 18, hv => cases hv
    | zz + 19, hv => cases hv) ?_
  refine V.run hF [(.aload_n 1, 1, .null)] (pc' := 486) (L' := [some (.ref (A 0)), some (.ref (qo q)), some (.int x), none, none, some (.int (nI t)), none, none, none, none, none, none, none, none, none, none, none, none, none]) (st' := [.ref (qo q)]) (by decide +kernel) rfl ?_
  refine V.getf hG hF k_RL_9 (by decide +kernel) s1 rfl ?_
  refine V.run hF [(.iload 5, 2, .null)] (pc' := 491) (L' := [some (.ref (A 0)), some (.ref (qo q)), some (.int x), none, none, some (.int (nI t)), none, none, none, none, none, none, none, none, none, none, none, none, none]) (st' := [.int (nI t), .ref (qta q)]) (by decide +kernel) rfl ?_
  refine V.aaldS (j := t) (b := (qtr q t)) hG hF (by decide +kernel) s4 (by omega) (by first | decide | omega) e1 ?_
  refine V.run hF [(.iconst 1, 1, .int (nI 1)), (.iconst 1, 1, .int 1), (.aload_n 1, 1, .null)] (pc' := 495) (L' := [some (.ref (A 0)), some (.ref (qo q)), some (.int x), none, none, some (.int (nI t)), none, none, none, none, none, none, none, none, none, none, none, none, none]) (st' := [.ref (qo q), .int 1, .int (nI 1), .ref (qtr q t)]) (by decide +kernel) rfl ?_
  refine V.getf hG hF k_RL_9 (by decide +kernel) s1 rfl ?_
  refine V.run hF [(.iload 5, 2, .null)] (pc' := 500) (L' := [some (.ref (A 0)), some (.ref (qo q)), some (.int x), none, none, some (.int (nI t)), none, none, none, none, none, none, none, none, none, none, none, none, none]) (st' := [.int (nI t), .ref (qta q), .int 1, .int (nI 1), .ref (qtr q t)]) (by decide +kernel) rfl ?_
  refine V.aaldS (j := t) (b := (qtr q t)) hG hF (by decide +kernel) s4 (by omega) (by first | decide | omega) e1 ?_
  refine V.run hF [(.iconst 1, 1, .int (nI 1))] (pc' := 502) (L' := [some (.ref (A 0)), some (.ref (qo q)), some (.int x), none, none, some (.int (nI t)), none, none, none, none, none, none, none, none, none, none, none, none, none]) (st' := [.int (nI 1), .ref (qtr q t), .int 1, .int (nI 1), .ref (qtr q t)]) (by decide +kernel) rfl ?_
  refine V.ialdN (j := 1) hG hF (by decide +kernel) e2 (by omega) (by first | decide | omega) ?_
  rw [f1]
  refine V.run hF [(.isub, 1, .null)] (pc' := 504) (L' := [some (.ref (A 0)), some (.ref (qo q)), some (.int x), none, none, some (.int (nI t)), none, none, none, none, none, none, none, none, none, none, none, none, none]) (st' := [.int (1 - gce σ t), .int (nI 1), .ref (qtr q t)]) (by decide +kernel) rfl ?_
  rw [ng_sub hz]
  refine V.iastN (j := 1) hG hF (by decide +kernel) e2 (by omega) (by first | decide | omega) ?_
  obtain ⟨h_1, gh1⟩ : ∃ z : Hp, z = hset h (qtr q t) (.inl (0, 2, .inl (upd f 1 (ng (gce σ t))))) := ⟨_, rfl⟩
  refine V.hp gh1 ?_
  have gk1 : ∀ zq : Nat, zq ≠ (qtr q t) → h_1 zq = h zq := fun zq hq => by rw [gh1]; exact hset_ne hq
  have gs1 : h_1 (qtr q t) = some (.inl (0, 2, .inl (upd f 1 (ng (gce σ t))))) := by rw [gh1]; exact hset_eq
  have ew : Exw (qtr q t) h h_1 := Exw.of (fun x hx => gk1 x hx)
  have hS2 := hS.cy ht gs1 (show upd f 1 (ng (gce σ t)) 0 = gha σ t from f0) (show upd f 1 (ng (gce σ t)) 1 = ng (gce σ t) from rfl) ew
  have hC2 := hC.exw ew (hS.o5 hC ht)
  obtain ⟨-, -, gA2, -⟩ := id hC2
  refine V.run hF [(.aload_n 0, 1, .null), (.iload 5, 2, .null)] (pc' := 508) (L' := [some (.ref (A 0)), some (.ref (qo q)), some (.int x), none, none, some (.int (nI t)), none, none, none, none, none, none, none, none, none, none, none, none, none]) (st' := [.int (nI t), .ref (A 0)]) (by decide +kernel) rfl ?_
  refine V.less (kc' := 398 + 2) (ks' := 388 + 12) (by decide) (by decide) ?_
  refine V.callV (As := [.int (nI t)]) (st := []) hG hF k_RL_69 (by decide +kernel) (c_X3_carry hG hC2 (nI t)) gA2 rfl rfl ⟨by rw [hRm]; decide, by rw [hRm]; decide⟩ (Nat.le_of_ble_eq_true rfl) rfl (fun v h3 hp3 => ?_) (fun E h9 hx => (hx.2.1 ⟨t, ht, rfl⟩).elim)
  obtain ⟨t', ht', et, hv, hC3, hk3⟩ := hp3
  have et : t = t' := (nI_eq (by omega) (by omega)).mp et
  subst et
  have hS3 := hS2.kp hC2 hO hk3
  rw [hv]
  obtain ⟨u1, -, -, ⟨g9, u4, u5⟩, -⟩ := id hS3
  have u4 : h3 (qta q) = some (.inl (2, gT σ, .inr (.inr (.inr (.inr g9))))) := u4
  obtain ⟨v1, f9, v2, v3, v4⟩ := u5 t ht
  have v4 : f9 1 = va_up (gce σ) t (ng (gce σ t)) t := v4
  rw [va_up_self] at v4
  show V G F _ _ _ 511 [some (.ref (A 0)), some (.ref (qo q)), some (.int x), none, none, some (.int (nI t)), none, none, none, none, none, none, none, none, none, none, none, none, none] [.int (ng (gce σ t))] h3
  refine V.run hF [(.aload_n 1, 1, .null)] (pc' := 512) (L' := [some (.ref (A 0)), some (.ref (qo q)), some (.int x), none, none, some (.int (nI t)), none, none, none, none, none, none, none, none, none, none, none, none, none]) (st' := [.ref (qo q), .int (ng (gce σ t))]) (by decide +kernel) rfl ?_
  refine V.getf hG hF k_RL_9 (by decide +kernel) u1 rfl ?_
  refine V.run hF [(.iload 5, 2, .null)] (pc' := 517) (L' := [some (.ref (A 0)), some (.ref (qo q)), some (.int x), none, none, some (.int (nI t)), none, none, none, none, none, none, none, none, none, none, none, none, none]) (st' := [.int (nI t), .ref (qta q), .int (ng (gce σ t))]) (by decide +kernel) rfl ?_
  refine V.aaldS (j := t) (b := (qtr q t)) hG hF (by decide +kernel) u4 (by omega) (by first | decide | omega) v1 ?_
  refine V.run hF [(.iconst 1, 1, .int (nI 1))] (pc' := 519) (L' := [some (.ref (A 0)), some (.ref (qo q)), some (.int x), none, none, some (.int (nI t)), none, none, none, none, none, none, none, none, none, none, none, none, none]) (st' := [.int (nI 1), .ref (qtr q t), .int (ng (gce σ t))]) (by decide +kernel) rfl ?_
  refine V.ialdN (j := 1) hG hF (by decide +kernel) v2 (by omega) (by first | decide | omega) ?_
  rw [v4]
  have fin1 : actP (A 0) (qo q) S Y (some (.int 1)) h3 := ⟨rfl, A, q, _, _, _, rfl, rfl, hC3, hS3, hO, hR.cy ht (ng01 _), (hA.cy ht).up (by omega), Nat.le_trans hgy (Nat.le_add_right _ _)⟩
  refine V.run hF [(.iconst 1, 1, .int 1)] (pc' := 521) (L' := [some (.ref (A 0)), some (.ref (qo q)), some (.int x), none, none, some (.int (nI t)), none, none, none, none, none, none, none, none, none, none, none, none, none]) (st' := [.int 1, .int (ng (gce σ t)), .int (ng (gce σ t))]) (by decide +kernel) rfl ?_
  refine V.icmp_ne hF (off := 7) (tgt := 528) (by decide +kernel) (by decide) (fun c1 => ?_) (fun c1 => ?_)
  · skip
    refine V.run hF [(.iconst 0, 1, .int 0)] (pc' := 529) (L' := [some (.ref (A 0)), some (.ref (qo q)), some (.int x), none, none, some (.int (nI t)), none, none, none, none, none, none, none, none, none, none, none, none, none]) (st' := [.int 0, .int (ng (gce σ t))]) (by decide +kernel) rfl ?_
    refine V.icmp_ne hF (off := 7) (tgt := 536) (by decide +kernel) (by decide) (fun c2 => ?_) (fun c2 => ?_)
    · exact absurd (Classical.byContradiction fun z => by
        rcases ng01 (gce σ t) with w | w
        · exact c2 w
        · exact c1 w) id
    · skip
      refine V.run hF [(.iconst 1, 1, .int 1), (.goto 4, 3, .null)] (pc' := 537) (L' := [some (.ref (A 0)), some (.ref (qo q)), some (.int x), none, none, some (.int (nI t)), none, none, none, none, none, none, none, none, none, none, none, none, none]) (st' := [.int 1]) (by decide +kernel) rfl ?_
      exact V.retz hF (by decide +kernel) rfl fin1
  · skip
    refine V.run hF [(.iconst 1, 1, .int 1), (.goto 4, 3, .null)] (pc' := 529) (L' := [some (.ref (A 0)), some (.ref (qo q)), some (.int x), none, none, some (.int (nI t)), none, none, none, none, none, none, none, none, none, none, none, none, none]) (st' := [.int 1, .int (ng (gce σ t))]) (by decide +kernel) rfl ?_
    refine V.icmp_ne hF (off := 7) (tgt := 536) (by decide +kernel) (by decide) (fun c2 => ?_) (fun c2 => ?_)
    · exact absurd c1 c2
    · skip
      refine V.run hF [(.iconst 1, 1, .int 1), (.goto 4, 3, .null)] (pc' := 537) (L' := [some (.ref (A 0)), some (.ref (qo q)), some (.int x), none, none, some (.int (nI t)), none, none, none, none, none, none, none, none, none, none, none, none, none]) (st' := [.int 1]) (by decide +kernel) rfl ?_
      exact V.retz hF (by decide +kernel) rfl fin1
set_option maxHeartbeats 4000000 in
theorem ac_heat (hG : GOk G) (hF : Ok G F RL cL_act 19 (some .boolean)) (hRm : acR F) (hC : CS h A σ P r) (hS : SM h q σ) (hO : SO A q) (hR : RI σ) (hA : Am σ S) (hgy : gy σ ≤ Y) {L3 L4 L5 L6 L7 L8 L9 : Option Value} :
    V G F (fin G F (actP (A 0) (qo q) S Y) pxN) 400 400 538 [some (.ref (A 0)), some (.ref (qo q)), some (.int x), L3, L4, L5, L6, L7, L8, L9, none, none, none, none, none, none, none, none, none] [] h := by
  obtain ⟨s1, s2, s3, -⟩ := id hS
  have nho : qo q ≠ qhe q := nek s1 s3 nofun
  refine V.loc (L' := [some (.ref (A 0)), some (.ref (qo q)), some (.int x), none, none, none, none, none, none, none, none, none, none, none, none, none, none, none, none]) (fun j v hv => by
    match j, hv with
    | 0, hv => exact hv
    | 1, hv => exact hv
    | 2, hv => exact hv
    | 3, hv => cases hv
    | 4, hv => cases hv
    | 5, hv => cases hv
    | 6, hv => cases hv
    | 7, hv => cases hv
    | 8, hv => cases hv
    | 9, hv => cases hv
    | 10, hv => cases hv
    | 11, hv => cases hv
    | 12, hv => cases hv
    | 13, hv => cases hv
    | 14, hv => cases hv
    | 15, hv => cases hv
    | 16, hv => cases hv
    | 17, hv => cases hv
    | 18, hv => cases hv
    | zz + 19, hv => cases hv) ?_
  refine V.run hF [(.iload_n 2, 1, .null), (.iconst 1, 1, .int 1), (.ishr, 1, .null), (.bipush 10, 2, .int (nI 10))] (pc' := 543) (L' := [some (.ref (A 0)), some (.ref (qo q)), some (.int x), none, none, none, none, none, none, none, none, none, none, none, none, none, none, none, none]) (st' := [.int (nI 10), .int (x >>> (1 &&& 31))]) (by decide +kernel) rfl ?_
  refine V.callS (As := [.int (x >>> (1 &&& 31)), .int (nI 10)]) (st := []) hG hF k_RL_15 (by decide +kernel) (c_L_below hG (x >>> (1 &&& 31)) (n := 10) (by omega) (by omega)) rfl ⟨by rw [hRm]; decide, by rw [hRm]; decide⟩ (Nat.le_of_ble_eq_true rfl) rfl (fun v h_1 gp1 => ?_) (fun E h9 hx => hx.elim)
  obtain ⟨rfl, he_gp1⟩ := gp1
  rw [he_gp1]
  show V G F _ _ _ 546 [some (.ref (A 0)), some (.ref (qo q)), some (.int x), none, none, none, none, none, none, none, none, none, none, none, none, none, none, none, none] [.int (nI (bl (x >>> (1 &&& 31)) 10))] h
  obtain ⟨k, hk⟩ : ∃ z : Nat, z = bl (x >>> (1 &&& 31)) 10 := ⟨_, rfl⟩
  rw [← hk]
  have lt_k : k < 10 := by rw [hk]; exact Nat.mod_lt _ (by omega)
  refine V.run hF [(.istore 13, 2, .null), (.aload_n 1, 1, .null)] (pc' := 549) (L' := [some (.ref (A 0)), some (.ref (qo q)), some (.int x), none, none, none, none, none, none, none, none, none, none, some (.int (nI k)), none, none, none, none, none]) (st' := [.ref (qo q)]) (by decide +kernel) rfl ?_
  refine V.getf hG hF k_RL_72 (by decide +kernel) s1 rfl ?_
  refine V.run hF [(.iload 13, 2, .null)] (pc' := 554) (L' := [some (.ref (A 0)), some (.ref (qo q)), some (.int x), none, none, none, none, none, none, none, none, none, none, some (.int (nI k)), none, none, none, none, none]) (st' := [.int (nI k), .ref (qhe q)]) (by decide +kernel) rfl ?_
  refine V.ialdN (j := k) hG hF (by decide +kernel) s3 (by omega) (by first | decide | omega) ?_
  refine V.run hF [(.istore 14, 2, .null), (.aload_n 1, 1, .null)] (pc' := 558) (L' := [some (.ref (A 0)), some (.ref (qo q)), some (.int x), none, none, none, none, none, none, none, none, none, none, some (.int (nI k)), some (.int ((ghe σ) k)), none, none, none, none]) (st' := [.ref (qo q)]) (by decide +kernel) rfl ?_
  refine V.getf hG hF k_RL_72 (by decide +kernel) s1 rfl ?_
  refine V.run hF [(.iload 13, 2, .null), (.iload_n 2, 1, .null), (.iconst 4, 1, .int 4), (.ishr, 1, .null), (.bipush 10, 2, .int (nI 10))] (pc' := 568) (L' := [some (.ref (A 0)), some (.ref (qo q)), some (.int x), none, none, none, none, none, none, none, none, none, none, some (.int (nI k)), some (.int ((ghe σ) k)), none, none, none, none]) (st' := [.int (nI 10), .int (x >>> (4 &&& 31)), .int (nI k), .ref (qhe q)]) (by decide +kernel) rfl ?_
  refine V.callS (As := [.int (x >>> (4 &&& 31)), .int (nI 10)]) (st := [.int (nI k), .ref (qhe q)]) hG hF k_RL_15 (by decide +kernel) (c_L_below hG (x >>> (4 &&& 31)) (n := 10) (by omega) (by omega)) rfl ⟨by rw [hRm]; decide, by rw [hRm]; decide⟩ (Nat.le_of_ble_eq_true rfl) rfl (fun v h_2 gp2 => ?_) (fun E h9 hx => hx.elim)
  obtain ⟨rfl, he_gp2⟩ := gp2
  rw [he_gp2]
  show V G F _ _ _ 571 [some (.ref (A 0)), some (.ref (qo q)), some (.int x), none, none, none, none, none, none, none, none, none, none, some (.int (nI k)), some (.int ((ghe σ) k)), none, none, none, none] [.int (nI (bl (x >>> (4 &&& 31)) 10)), .int (nI k), .ref (qhe q)] h
  obtain ⟨y, hy⟩ : ∃ z : Nat, z = bl (x >>> (4 &&& 31)) 10 := ⟨_, rfl⟩
  rw [← hy]
  have lt_y : y < 10 := by rw [hy]; exact Nat.mod_lt _ (by omega)
  refine V.iastN (j := k) hG hF (by decide +kernel) s3 (by omega) (by first | decide | omega) ?_
  obtain ⟨h_3, gh3⟩ : ∃ z : Hp, z = hset h (qhe q) (.inl (0, 10, .inl (upd (ghe σ) k (nI y)))) := ⟨_, rfl⟩
  refine V.hp gh3 ?_
  have gk3 : ∀ zq : Nat, zq ≠ (qhe q) → h_3 zq = h zq := fun zq hq => by rw [gh3]; exact hset_ne hq
  have gs3 : h_3 (qhe q) = some (.inl (0, 10, .inl (upd (ghe σ) k (nI y)))) := by rw [gh3]; exact hset_eq
  have ew : Exw (qhe q) h h_3 := Exw.of (fun x hx => gk3 x hx)
  have hS2 := hS.he gs3 ew
  have hC2 := hC.exw ew (hS.o3 hC hO)
  obtain ⟨-, -, gA2, -⟩ := id hC2
  refine V.run hF [(.aload_n 0, 1, .null), (.iload 13, 2, .null), (.aload_n 1, 1, .null)] (pc' := 576) (L' := [some (.ref (A 0)), some (.ref (qo q)), some (.int x), none, none, none, none, none, none, none, none, none, none, some (.int (nI k)), some (.int ((ghe σ) k)), none, none, none, none]) (st' := [.ref (qo q), .int (nI k), .ref (A 0)]) (by decide +kernel) rfl ?_
  have gf4 : h_3 (qo q) = some (.inr (4, [.ref (qth q), .ref (qhe q), .ref (qta q), .ref (qli q), .int (nI (gy σ)), .int (gme σ), .int (gde σ)])) := (gk3 (qo q) (by first | assumption | exact Ne.symm (by assumption) | omega)).trans s1
  refine V.getf hG hF k_RL_72 (by decide +kernel) gf4 rfl ?_
  refine V.run hF [(.iload 13, 2, .null)] (pc' := 581) (L' := [some (.ref (A 0)), some (.ref (qo q)), some (.int x), none, none, none, none, none, none, none, none, none, none, some (.int (nI k)), some (.int ((ghe σ) k)), none, none, none, none]) (st' := [.int (nI k), .ref (qhe q), .int (nI k), .ref (A 0)]) (by decide +kernel) rfl ?_
  refine V.ialdN (j := k) hG hF (by decide +kernel) gs3 (by omega) (by first | decide | omega) ?_
  rw [upd_s]
  have hk10 : inH (nI k) := ⟨nI_pos (by omega), (nI_ltI (a := k) (b := 10) (by omega) (by decide)).mpr lt_k⟩
  have hy9 : inE (nI y) := ⟨nI_pos (by omega), (nI_leI (a := y) (b := 9) (by omega) (by decide)).mpr (by omega)⟩
  refine V.less (kc' := 399 + 1) (ks' := 394 + 6) (by decide) (by decide) ?_
  refine V.callV (As := [.int (nI k), .int (nI y)]) (st := []) hG hF k_RL_76 (by decide +kernel) (c_X3_setHeat hG hC2 (nI k) (nI y)) gA2 rfl rfl ⟨by rw [hRm]; decide, by rw [hRm]; decide⟩ (Nat.le_of_ble_eq_true rfl) rfl (fun v h3 hp3 => ?_) (fun E h9 hx => (hx.1.elim (fun z => z.2 hk10) (fun z => z.2.2 hy9)).elim)
  obtain ⟨k', hk', ek, -, hv, hC3, hk3⟩ := hp3
  have ek : k = k' := (nI_eq (by omega) (by omega)).mp ek
  subst ek
  have hS3 := hS2.kp hC2 hO hk3
  rw [hv]
  show V G F _ _ _ 585 [some (.ref (A 0)), some (.ref (qo q)), some (.int x), none, none, none, none, none, none, none, none, none, none, some (.int (nI k)), some (.int ((ghe σ) k)), none, none, none, none] [.int (ghe σ k)] h3
  refine V.run hF [(.iload 14, 2, .null)] (pc' := 587) (L' := [some (.ref (A 0)), some (.ref (qo q)), some (.int x), none, none, none, none, none, none, none, none, none, none, some (.int (nI k)), some (.int ((ghe σ) k)), none, none, none, none]) (st' := [.int ((ghe σ) k), .int (ghe σ k)]) (by decide +kernel) rfl ?_
  refine V.icmp_ne hF (off := 7) (tgt := 594) (by decide +kernel) (by decide) (fun c1 => ?_) (fun c1 => ?_)
  · exact absurd rfl c1
  · skip
    refine V.run hF [(.iconst 1, 1, .int 1), (.goto 4, 3, .null)] (pc' := 595) (L' := [some (.ref (A 0)), some (.ref (qo q)), some (.int x), none, none, none, none, none, none, none, none, none, none, some (.int (nI k)), some (.int ((ghe σ) k)), none, none, none, none]) (st' := [.int 1]) (by decide +kernel) rfl ?_
    exact V.retz hF (by decide +kernel) rfl ⟨rfl, A, q, _, _, _, rfl, rfl, hC3, hS3, hO, hR.he, hA.he.up (by omega), Nat.le_trans hgy (Nat.le_add_right _ _)⟩
end Ac
