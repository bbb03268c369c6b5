theorem M_X8_readNameM {l : Launch} {X : pX} {t g : Nat} {I : pHI} {J : pHJ} {Q : pQ} {n m : Nat} {B : Nat → Nat} {L : List (List Nat)} {s : pRS} (hm : m = L.length) (hT : tpC I n B) (hL : cNm L J) (hok : ∀ w, w ∈ L → okW w) (hl : L.length < 8) (hr : cRd B n I J s) (hq : ∀ I1 J1, sR2 I I1 → jL J J1 → cRd B n I1 J1 (nmS B n L s) → (∀ q, nmS B n L s = .inr q → cNm (L ++ [nmL B n s]) J1) → Q none I1 J1 (pR t g)) : pM l X yX8_readName mX8_readName 7 [.ref 2, .int (nI m)] pK pK I J (pR t g) Q := by
  subst hm
  exact M_X8_readName hT hL hok hl hr hq
def cDt (o : Nat) (I : pHI) (J : pHJ) (D : pDt) : Prop := cH o D.1 I ∧ cF (o + 6) (D.2.2.1.getD (dfl 0)) I ∧ cF (o + 10) (D.2.2.2.1.getD (dfl 1)) I ∧ I 2 3 = nI (if D.2.2.1 = none then 0 else 1) ∧ I 2 4 = nI (if D.2.2.2.1 = none then 0 else 1) ∧ I 2 5 = nI (if D.2.2.2.2 = false then 0 else 1) ∧ cNm D.2.1 J
theorem cH.r2 {o : Nat} {H : pN} {I I1 : pHI} (ho : isH o) (h : cH o H I) (hx : sR2 I I1) : cH o H I1 := by
  have hb := isH_b ho
  exact h.fr (fun k _ => hx o k (by omega) (by omega)) (fun c i _ _ => hx c i (by omega) (by omega))
theorem cDt.r2 {o : Nat} {D : pDt} {I I1 : pHI} {J J1 : pHJ} (ho : isH o) (h : cDt o I J D) (hx : sR2 I I1) (hj : j4 J J1) : cDt o I1 J1 D := by
  have hb := isH_b ho
  obtain ⟨a, b, c, d, e, f, k⟩ := h
  exact ⟨a.r2 ho hx, b.fr (hx _ _ (by omega) (by omega)) (fun i => hx _ _ (by omega) (by omega)) (fun i => hx _ _ (by omega) (by omega)), c.fr (hx _ _ (by omega) (by omega)) (fun i => hx _ _ (by omega) (by omega)) (fun i => hx _ _ (by omega) (by omega)), (hx 2 3 (by omega) (by omega)).trans d, (hx 2 4 (by omega) (by omega)).trans e, (hx 2 5 (by omega) (by omega)).trans f, k.j4 hj⟩
theorem cRd.ho {B : Nat → Nat} {n o c k : Nat} {x : Int32} {I : pHI} {J : pHJ} {s : pRS} (h : cRd B n I J s) (ho : isH o) (hc : o ≤ c ∧ c ≤ o + 13) : cRd B n (pu I c k x) J s := by
  have hb := isH_b ho
  exact h.fr (fun k => by rw [pu_ne _ _ _ (by omega)]) (by rw [pu_ne _ _ _ (by omega)]) (by rw [pu_ne _ _ _ (by omega)])
theorem rdN_i {B : Nat → Nat} {n lo hi : Nat} {s : pRS} {q : Nat} (h : rdN B n lo hi s = .inr q) : ∃ p, s = .inr p := by
  cases s with
  | inl e => cases h
  | inr p => exact ⟨p, rfl⟩
theorem sp1_w {B : Nat → Nat} {n i : Nat} {s : pRS} (h : isW B n i s = true) : sp1 B n s = nxW B n i s := by
  cases s with
  | inl e => rfl
  | inr p => rw [nxW, if_pos (show tkWb B n p i = true from h)]; rfl
/-- words apart -/
theorem wd_ne {B : Nat → Nat} {n p i j : Nat} (hi : i ∈ ownI) (hj : j ∈ ownI) (h : tkWb B n p i = true) (hij : i ≠ j) : ¬ tkWb B n p j = true := fun q => by
  have a := (tkWb_i.mp h).2
  rw [(tkWb_i.mp q).2] at a
  exact hij (kw_inj j hj i hi a).symm
theorem cH.fr2 {o : Nat} {H : pN} {I : pHI} (h : cH o H I) (h2 : I o 1 = nI 0) : cH o (upN H 2 0) I := by
  obtain ⟨a, b, c, d, e, f⟩ := h
  refine ⟨?_, ?_, ?_, ?_, ?_, fun j hj => ?_⟩
  · rw [upN_n (by omega)]; exact a
  · rw [upN_e]; exact h2
  · rw [upN_n (by omega)]; exact c
  · rw [upN_n (by omega)]; exact d
  · rw [upN_n (by omega)]; exact e
  · rw [upN_n (by omega), upN_n (by omega), upN_n (by omega), upN_n (by omega), upN_n (by omega)]; exact f j hj
set_option maxHeartbeats 400000 in
set_option maxRecDepth 100000 in
theorem M_X8_readStoreys {l : Launch} {X : pX} {t g : Nat} {I : pHI} {J : pHJ} {Q : pQ} {n o p : Nat} {B : Nat → Nat} {D : pDt} (ho : isH o) (hT : tpC I n B) (hr : cRd B n I J (.inr p)) (hD : cDt o I J D) (hz2 : D.1 2 = 0) (hq : ∀ I1 J1, sRL o I I1 → jL J J1 → cRd B n I1 J1 (nxG B n 59 (stL B n p D).1) → (∀ q, nxG B n 59 (stL B n p D).1 = .inr q → cDt o I1 J1 (stL B n p D).2) → Q none I1 J1 (pR t g)) : pM l X yX8_readStoreys mX8_readStoreys 8 [.ref 2, .ref o] pK pK I J (pR t g) Q := by
  obtain ⟨fHho0, fHho1, fHho2, fHho3, fHho4, fHho5, fHho6, fHho7, fHho8, fHho9, fHho10, fHho11, fHho12, fHho13, fHho14, fHho15, fHho16, fHho17, fHho18, fHho19, fHho20, fHho21, fHho22, fHho23, fHho24, fHho25, fHho26⟩ := HF t g ho
  have hb := isH_b ho
  refine pM_of rfl (fun h => by cases h) rfl pKM (Nat.le_of_ble_eq_true rfl) ?_
  refine pE_aload_n dX8_readStoreys_0 rfl rfl ?_
  refine pE_callV (d' := 6) (as := []) dX8_readStoreys_1 lkX8_85 (cwX8_step _ _) ivX8_step ⟨_, rfl, rfl⟩ (by first | assumption | rfl) rfl rfl (Nat.le_of_ble_eq_true rfl) (by decide) pKK ?_
  refine M_X8_stepR hT hr (fun I1 J1 x1 y1 z1 => ?_)
  have z1 : cRd B n I1 J1 (stp B n p) := z1
  refine pE_aload_n dX8_readStoreys_4 rfl rfl ?_
  refine pE_aload_n dX8_readStoreys_5 rfl rfl ?_
  refine pE_iconst (v := nI 1) dX8_readStoreys_6 rfl ?_
  refine pE_bipush (v := nI 20) dX8_readStoreys_7 rfl ?_
  refine pE_callV (d' := 7) (as := [_, _]) dX8_readStoreys_9 lkX8_86 (cwX8_readNumber _ _) ivX8_readNumber ⟨_, rfl, rfl⟩ (by first | assumption | rfl) rfl rfl (Nat.le_of_ble_eq_true rfl) (by decide) pKK ?_
  refine M_X8_readNumber (hT.L ho x1.L) z1 (by omega) (by omega) (fun I2 J2 x x2 y2 z2 w2 => ?_)
  have hT2 : tpC (pu I2 o 0 x) n B := ((hT.L ho x1.L).L ho x2.L).L ho (sRL.rf.hp (by omega))
  refine pE_putI dX8_readStoreys_12 flX8_90 ftX2 fiX2_0 rfl rfl (by first | assumption | rfl) ?_
  refine pE_aload_n dX8_readStoreys_15 rfl rfl ?_
  refine pE_ldcS (i := 2) dX8_readStoreys_16 rfl ?_
  refine pE_callV (d' := 5) (as := [_]) dX8_readStoreys_18 lkX8_58 (cwX8_isNext _ _) ivX8_isNext ⟨_, rfl, rfl⟩ (by first | assumption | rfl) rfl rfl (Nat.le_of_ble_eq_true rfl) (by decide) pKK ?_
  refine M_X8_isNext (z2.ho ho (by omega)) (show 2 ∈ ownI by decide) (fun zl => ?_) (fun zl => ?_)
  · refine pE_if_eq_f (tgt := 41) dX8_readStoreys_21 (by decide) nI_1n0 ?_
    obtain ⟨qq, hqq⟩ : ∃ qq, rdN B n 1 20 (stp B n p) = .inr qq := by
      cases e : rdN B n 1 20 (stp B n p) with
      | inl a => rw [e] at zl; cases zl
      | inr a => exact ⟨a, rfl⟩
    have hx0 := w2 qq hqq
    subst hx0
    have hvv := rdN_v hqq
    refine pE_aload_n dX8_readStoreys_24 rfl rfl ?_
    refine pE_callV (d' := 6) (as := []) dX8_readStoreys_25 lkX8_85 (cwX8_step _ _) ivX8_step ⟨_, rfl, rfl⟩ (by first | assumption | rfl) rfl rfl (Nat.le_of_ble_eq_true rfl) (by decide) pKK ?_
    refine M_X8_stepR hT2 (z2.ho ho (by omega)) (fun I3 J3 x3 y3 z3 => ?_)
    refine pE_aload_n dX8_readStoreys_28 rfl rfl ?_
    refine pE_aload_n dX8_readStoreys_29 rfl rfl ?_
    refine pE_iconst (v := nI 0) dX8_readStoreys_30 rfl ?_
    refine pE_aload_n dX8_readStoreys_31 rfl rfl ?_
    refine pE_getI dX8_readStoreys_32 flX8_90 rfl (Or.inl rfl) (by first | assumption | rfl) ?_
    rw [x3 o 0 (by omega) (by omega), pu_at, if_pos ⟨rfl, rfl⟩]
    refine pE_callV (d' := 7) (as := [_, _]) dX8_readStoreys_35 lkX8_86 (cwX8_readNumber _ _) ivX8_readNumber ⟨_, rfl, rfl⟩ (by first | assumption | rfl) rfl rfl (Nat.le_of_ble_eq_true rfl) (by decide) pKK ?_
    refine M_X8_readNumber (hT2.L ho x3.L) z3 (lo := 0) (hi := vlN B n (stp B n p)) (by omega) (by omega) (fun I4 J4 y x4 y4 z4 w4 => ?_)
    refine pE_putI dX8_readStoreys_38 flX8_94 ftX2 fiX2_1 rfl rfl (by first | assumption | rfl) ?_
    have hD1 := ((hD.r2 ho x1 y1).r2 ho x2 y2)
    refine pE_aload_n dX8_readStoreys_41 rfl rfl ?_
    refine pE_bipush (v := nI 59) dX8_readStoreys_42 rfl ?_
    refine pE_callV (d' := 7) (as := [_]) dX8_readStoreys_44 lkX8_97 (cwX8_readSign _ _) ivX8_readSign ⟨_, rfl, rfl⟩ (by first | assumption | rfl) rfl rfl (Nat.le_of_ble_eq_true rfl) (by decide) pKK ?_
    refine M_X8_readSign ((hT2.L ho x3.L).L ho (x4.L.tr (sRL.rf.hp (by omega)))) (z4.ho ho (by omega)) (by omega) (fun I5 J5 x5 y5 z5 => ?_)
    refine pE_vret dX8_readStoreys_47 rfl rfl ?_
    have e1 : (stL B n p D).1 = rdN B n 0 (vlN B n (stp B n p)) (sp1 B n (rdN B n 1 20 (stp B n p))) := by unfold stL opN; rw [if_pos zl, sp1_w zl]
    refine hq I5 J5 (x1.L.tr (x2.L.tr ((sRL.rf.hp (by omega)).tr (x3.L.tr ((x4.L.hp (by omega)).tr x5.L))))) ((y1.tr (y2.tr (y3.tr (y4.tr y5)))).l) (by rw [e1]; exact z5) (fun q hh => ?_)
    obtain ⟨q1, h1⟩ := (leR.g (B := B) (n := n) (i := 59) (s := (stL B n p D).1) q hh)
    have h2 := h1.1
    rw [e1] at h2
    have hy0 := w4 q1 h2
    refine cDt.r2 ho ?_ x5 y5
    obtain ⟨a, b, c, d, e, f, k⟩ := hD1
    have k0 : ∀ c k, c ≠ o → ¬ (c = 4 ∧ 2 ≤ k) → ¬ (c = 2 ∧ 6 ≤ k) → pu I4 o 1 y c k = I2 c k := fun c k q1 q2 q3 => by rw [pu_ne _ _ _ q1, x4 c k q2 q3, x3 c k q2 q3, pu_ne _ _ _ q1]
    refine ⟨?_, b.fr (k0 _ _ (by omega) (by omega) (by omega)) (fun i => k0 _ _ (by omega) (by omega) (by omega)) (fun i => k0 _ _ (by omega) (by omega) (by omega)), c.fr (k0 _ _ (by omega) (by omega) (by omega)) (fun i => k0 _ _ (by omega) (by omega) (by omega)) (fun i => k0 _ _ (by omega) (by omega) (by omega)), by rw [k0 _ _ (by omega) (by omega) (by omega)]; exact d, by rw [k0 _ _ (by omega) (by omega) (by omega)]; exact e, by rw [k0 _ _ (by omega) (by omega) (by omega)]; exact f, (k.j4 y3).j4 y4⟩
    have a2 := (((a.u0 (v := vlN B n (stp B n p))).r2 ho x3).r2 ho x4).u2 (v := vlN B n (sp1 B n (rdN B n 1 20 (stp B n p))))
    rw [hy0]
    have e3 : (stL B n p D).2.1 = upN (upN D.1 0 (vlN B n (stp B n p))) 2 (vlN B n (sp1 B n (rdN B n 1 20 (stp B n p)))) := by unfold stL opV; rw [if_pos zl, sp1_w zl]
    rw [e3]
    exact a2
  · refine pE_if_eq_t (tgt := 41) dX8_readStoreys_21 (by decide) nI_0 ?_
    have hD1 := ((hD.r2 ho x1 y1).r2 ho x2 y2)
    refine pE_aload_n dX8_readStoreys_41 rfl rfl ?_
    refine pE_bipush (v := nI 59) dX8_readStoreys_42 rfl ?_
    refine pE_callV (d' := 7) (as := [_]) dX8_readStoreys_44 lkX8_97 (cwX8_readSign _ _) ivX8_readSign ⟨_, rfl, rfl⟩ (by first | assumption | rfl) rfl rfl (Nat.le_of_ble_eq_true rfl) (by decide) pKK ?_
    refine M_X8_readSign hT2 (z2.ho ho (by omega)) (by omega) (fun I5 J5 x5 y5 z5 => ?_)
    refine pE_vret dX8_readStoreys_47 rfl rfl ?_
    have e1 : (stL B n p D).1 = rdN B n 1 20 (stp B n p) := by unfold stL opN; rw [if_neg zl]
    refine hq I5 J5 (x1.L.tr (x2.L.tr ((sRL.rf.hp (by omega)).tr x5.L))) ((y1.tr (y2.tr y5)).l) (by rw [e1]; exact z5) (fun q hh => ?_)
    obtain ⟨q1, h1⟩ := (leR.g (B := B) (n := n) (i := 59) (s := (stL B n p D).1) q hh)
    have h2 := h1.1
    rw [e1] at h2
    have hx0 := w2 q1 h2
    refine cDt.r2 ho ?_ x5 y5
    obtain ⟨a, b, c, d, e, f, k⟩ := hD1
    refine ⟨?_, b.fr (by rw [pu_ne _ _ _ (by omega)]) (fun i => by rw [pu_ne _ _ _ (by omega)]) (fun i => by rw [pu_ne _ _ _ (by omega)]), c.fr (by rw [pu_ne _ _ _ (by omega)]) (fun i => by rw [pu_ne _ _ _ (by omega)]) (fun i => by rw [pu_ne _ _ _ (by omega)]), by rw [pu_ne _ _ _ (by omega)]; exact d, by rw [pu_ne _ _ _ (by omega)]; exact e, by rw [pu_ne _ _ _ (by omega)]; exact f, k⟩
    have a2 := a.u0 (v := vlN B n (stp B n p))
    rw [hx0]
    have e3 : (stL B n p D).2.1 = upN (upN D.1 0 (vlN B n (stp B n p))) 2 0 := by unfold stL opV; rw [if_neg zl]
    rw [e3]
    have e4 := a.2.1
    refine a2.fr2 ?_
    rw [pu_at, if_neg (by omega), e4, hz2]
set_option maxHeartbeats 400000 in
set_option maxRecDepth 100000 in
theorem M_X8_readTenantF {l : Launch} {X : pX} {t g : Nat} {I : pHI} {J : pHJ} {Q : pQ} {n o p : Nat} {B : Nat → Nat} {D : pDt} (ho : isH o) (hT : tpC I n B) (hr : cRd B n I J (.inr p)) (hD : cDt o I J D) (h8 : D.1 1 = 8) (hq : ∀ I1, sRL o I I1 → cRd B n I1 J (.inl (2, tQ B n p)) → Q none I1 J (pR t g)) : pM l X yX8_readTenant mX8_readTenant 8 [.ref 2, .ref o] pK pK I J (pR t g) Q := by
  obtain ⟨fHho0, fHho1, fHho2, fHho3, fHho4, fHho5, fHho6, fHho7, fHho8, fHho9, fHho10, fHho11, fHho12, fHho13, fHho14, fHho15, fHho16, fHho17, fHho18, fHho19, fHho20, fHho21, fHho22, fHho23, fHho24, fHho25, fHho26⟩ := HF t g ho
  have hb := isH_b ho
  refine pM_of rfl (fun h => by cases h) rfl pKM (Nat.le_of_ble_eq_true rfl) ?_
  refine pE_aload_n dX8_readTenant_0 rfl rfl ?_
  refine pE_getI dX8_readTenant_1 flX8_125 rfl (Or.inl rfl) (by first | assumption | rfl) ?_
  rw [hD.1.2.2.1, h8]
  refine pE_istore_n (lc' := [_, _, some (.int _)]) dX8_readTenant_4 rfl (Nat.le_of_ble_eq_true rfl) rfl rfl ?_
  refine pE_iload_n dX8_readTenant_5 rfl rfl ?_
  refine pE_if_lt (tgt := 15) dX8_readTenant_6 (by decide) (fun h6 => ?_) (fun h6 => ?_)
  · exact absurd h6 (nI_pos (by omega))
  · refine pE_iload_n dX8_readTenant_9 rfl rfl ?_
    refine pE_bipush (v := nI 8) dX8_readTenant_10 rfl ?_
    refine pE_icmp_lt (tgt := 21) dX8_readTenant_12 (by decide) (fun h12 => ?_) (fun h12 => ?_)
    · have g12 := nq_lt (by omega) (by omega) h12
      omega
    · have g12 := nq_nlt (by omega) (by omega) h12
      refine pE_aload_n dX8_readTenant_15 rfl rfl ?_
      refine pE_iconst (v := nI 2) dX8_readTenant_16 rfl ?_
      refine pE_callV (d' := 0) (as := [_]) dX8_readTenant_17 lkX8_82 (cwX8_fail _ _) ivX8_fail ⟨_, rfl, rfl⟩ (by first | assumption | rfl) rfl rfl (Nat.le_of_ble_eq_true rfl) (by decide) pKK ?_
      refine M_X8_fail hT hr (by omega) (fun I1 x1 z1 => ?_)
      refine pE_vret dX8_readTenant_20 rfl rfl ?_
      exact hq I1 x1.L z1
theorem cH.z40 {o t : Nat} {H : pN} {I : pHI} (h : cH o H I) (hz : H (40 + t) = 0) : cH o (upN H (40 + t) 0) I := by
  have e : upN H (40 + t) 0 = H := by
    funext j
    unfold upN
    split
    · rename_i c; rw [c, hz]
    · rfl
  rw [e]; exact h
set_option maxHeartbeats 400000 in
set_option maxRecDepth 100000 in
theorem M_X8_readTenantO {l : Launch} {X : pX} {t g : Nat} {I : pHI} {J : pHJ} {Q : pQ} {n o p : Nat} {B : Nat → Nat} {D : pDt} (ho : isH o) (hT : tpC I n B) (hr : cRd B n I J (.inr p)) (hD : cDt o I J D) (hrD : rDt D) (h8 : D.1 1 < 8) (hz : D.1 (40 + D.1 1) = 0) (hq : ∀ I1 J1, sRL o I I1 → jL J J1 → cRd B n I1 J1 (tn5 B n p D) → (∀ q, tn5 B n p D = .inr q → cDt o I1 J1 (tnL B n p D).2) → Q none I1 J1 (pR t g)) : pM l X yX8_readTenant mX8_readTenant 8 [.ref 2, .ref o] pK pK I J (pR t g) Q := by
  obtain ⟨fHho0, fHho1, fHho2, fHho3, fHho4, fHho5, fHho6, fHho7, fHho8, fHho9, fHho10, fHho11, fHho12, fHho13, fHho14, fHho15, fHho16, fHho17, fHho18, fHho19, fHho20, fHho21, fHho22, fHho23, fHho24, fHho25, fHho26⟩ := HF t g ho
  have hb := isH_b ho
  have ht : D.1 1 < 8 := h8
  have h2 := hD.1.2.2.1
  have h0 := hD.1.1
  have hH0 := hrD.1
  have hnm := hD.2.2.2.2.2.2
  have hlen : D.1 1 = D.2.1.length := hrD.2.2.2.2.2.2.1.symm
  refine pM_of rfl (fun h => by cases h) rfl pKM (Nat.le_of_ble_eq_true rfl) ?_
  refine pE_aload_n dX8_readTenant_0 rfl rfl ?_
  refine pE_getI dX8_readTenant_1 flX8_125 rfl (Or.inl rfl) (by first | assumption | rfl) ?_
  rw [h2]
  refine pE_istore_n (lc' := [_, _, some (.int _)]) dX8_readTenant_4 rfl (Nat.le_of_ble_eq_true rfl) rfl rfl ?_
  refine pE_iload_n dX8_readTenant_5 rfl rfl ?_
  refine pE_if_lt (tgt := 15) dX8_readTenant_6 (by decide) (fun h6 => ?_) (fun h6 => ?_)
  · exact absurd h6 (nI_pos (by omega))
  · refine pE_iload_n dX8_readTenant_9 rfl rfl ?_
    refine pE_bipush (v := nI 8) dX8_readTenant_10 rfl ?_
    refine pE_icmp_lt (tgt := 21) dX8_readTenant_12 (by decide) (fun h12 => ?_) (fun h12 => ?_)
    · have g12 := nq_lt (by omega) (by omega) h12
      refine pE_aload_n dX8_readTenant_21 rfl rfl ?_
      refine pE_callV (d' := 6) (as := []) dX8_readTenant_22 lkX8_85 (cwX8_step _ _) ivX8_step ⟨_, rfl, rfl⟩ (by first | assumption | rfl) rfl rfl (Nat.le_of_ble_eq_true rfl) (by decide) pKK ?_
      refine M_X8_stepR hT hr (fun I1 J1 x1 y1 z1 => ?_)
      have z1 : cRd B n I1 J1 (stp B n p) := z1
      have hT1 := hT.L ho x1.L
      have f1 : sRL o I I1 := x1.L
      refine pE_aload_n dX8_readTenant_25 rfl rfl ?_
      refine pE_iload_n dX8_readTenant_26 rfl rfl ?_
      refine pE_callV (d' := 7) (as := [_]) dX8_readTenant_27 lkX8_128 (cwX8_readName _ _) ivX8_readName ⟨_, rfl, rfl⟩ (by first | assumption | rfl) rfl rfl (Nat.le_of_ble_eq_true rfl) (by decide) pKK ?_
      refine M_X8_readNameM hlen hT1 (hnm.j4 y1) hrD.2.2.2.2.2.2.2.1 (by rw [hrD.2.2.2.2.2.2.1]; exact ht) z1 (fun I2 J2 x2 y2 z2 w2 => ?_)
      have hT2 := hT1.L ho x2.L
      have f2 := f1.tr x2.L
      have c2 := (hD.1.r2 ho x1).r2 ho x2
      refine pE_aload_n dX8_readTenant_30 rfl rfl ?_
      refine pE_ldcS (i := 5) dX8_readTenant_31 rfl ?_
      refine pE_callV (d' := 7) (as := [_]) dX8_readTenant_33 lkX8_133 (cwX8_readWord _ _) ivX8_readWord ⟨_, rfl, rfl⟩ (by first | assumption | rfl) rfl rfl (Nat.le_of_ble_eq_true rfl) (by decide) pKK ?_
      refine M_X8_readWord hT2 z2 (show 5 ∈ ownI by decide) (fun I3 J3 x3 y3 z3 => ?_)
      have hT3 := hT2.L ho x3.L
      have f3 := f2.tr x3.L
      have c3 := c2.r2 ho x3
      refine pE_aload_n dX8_readTenant_36 rfl rfl ?_
      refine pE_getR dX8_readTenant_37 flX8_137 rfl (by first | assumption | rfl) (by first | assumption | rfl) ?_
      refine pE_iload_n dX8_readTenant_40 rfl rfl ?_
      refine pE_aload_n dX8_readTenant_41 rfl rfl ?_
      refine pE_iconst (v := nI 0) dX8_readTenant_42 rfl ?_
      refine pE_aload_n dX8_readTenant_43 rfl rfl ?_
      refine pE_getI dX8_readTenant_44 flX8_90 rfl (Or.inl rfl) (by first | assumption | rfl) ?_
      rw [c3.1]
      refine pE_callV (d' := 7) (as := [_, _]) dX8_readTenant_47 lkX8_86 (cwX8_readNumber _ _) ivX8_readNumber ⟨_, rfl, rfl⟩ (by first | assumption | rfl) rfl rfl (Nat.le_of_ble_eq_true rfl) (by decide) pKK ?_
      refine M_X8_readNumber hT3 z3 (lo := 0) (hi := D.1 0) (by omega) (by omega) (fun I4 J4 v1 x4 y4 z4 w4 => ?_)
      have hT4 : tpC (pu I4 (o + 1) (D.1 1) v1) n B := (hT3.L ho x4.L).L ho (sRL.rf.hp (by omega))
      have f4 := (f3.tr x4.L).tr (sRL.rf.hp (c := o + 1) (k := D.1 1) (x := v1) (by omega))
      have c4 : ∀ q, tn1 B n p D = .inr q → cH o (upN D.1 (8 + D.1 1) (fvN B n 5 (tn0 B n p D))) (pu I4 (o + 1) (D.1 1) v1) := fun q e => by
        rw [w4 q e]
        exact (cH.r2 ho (c3) x4).w8 ht
      refine pE_iastoreN dX8_readTenant_50 (by first | assumption | rfl) (by first | assumption | omega) (by omega) ?_
      refine pE_aload_n dX8_readTenant_51 rfl rfl ?_
      refine pE_ldcS (i := 6) dX8_readTenant_52 rfl ?_
      refine pE_callV (d' := 7) (as := [_]) dX8_readTenant_54 lkX8_133 (cwX8_readWord _ _) ivX8_readWord ⟨_, rfl, rfl⟩ (by first | assumption | rfl) rfl rfl (Nat.le_of_ble_eq_true rfl) (by decide) pKK ?_
      refine M_X8_readWord hT4 (z4.ho ho (by omega)) (show 6 ∈ ownI by decide) (fun I5 J5 x5 y5 z5 => ?_)
      have hT5 := hT4.L ho x5.L
      have f5 := f4.tr x5.L
      have c5 : ∀ q, tn1 B n p D = .inr q → cH o (upN D.1 (8 + D.1 1) (fvN B n 5 (tn0 B n p D))) I5 := fun q e => (c4 q e).r2 ho x5
      refine pE_aload_n dX8_readTenant_57 rfl rfl ?_
      refine pE_getR dX8_readTenant_58 flX8_142 rfl (by first | assumption | rfl) (by first | assumption | rfl) ?_
      refine pE_iload_n dX8_readTenant_61 rfl rfl ?_
      refine pE_aload_n dX8_readTenant_62 rfl rfl ?_
      refine pE_iconst (v := nI 0) dX8_readTenant_63 rfl ?_
      refine pE_bipush (v := nI 40) dX8_readTenant_64 rfl ?_
      refine pE_callV (d' := 7) (as := [_, _]) dX8_readTenant_66 lkX8_86 (cwX8_readNumber _ _) ivX8_readNumber ⟨_, rfl, rfl⟩ (by first | assumption | rfl) rfl rfl (Nat.le_of_ble_eq_true rfl) (by decide) pKK ?_
      refine M_X8_readNumber hT5 z5 (lo := 0) (hi := 40) (by omega) (by omega) (fun I6 J6 v2 x6 y6 z6 w6 => ?_)
      have hT6 : tpC (pu I6 (o + 2) (D.1 1) v2) n B := (hT5.L ho x6.L).L ho (sRL.rf.hp (by omega))
      have f6 := (f5.tr x6.L).tr (sRL.rf.hp (c := o + 2) (k := D.1 1) (x := v2) (by omega))
      have c6 : ∀ q, tn2 B n p D = .inr q → cH o (upN (upN D.1 (8 + D.1 1) (fvN B n 5 (tn0 B n p D))) (16 + D.1 1) (fvN B n 6 (tn1 B n p D))) (pu I6 (o + 2) (D.1 1) v2) := fun q e => by
        rw [w6 q e]
        exact (cH.r2 ho (c5 (fdN_v e).2.choose (fdN_v e).2.choose_spec) x6).w16 ht
      refine pE_iastoreN dX8_readTenant_69 (by first | assumption | rfl) (by first | assumption | omega) (by omega) ?_
      refine pE_aload_n dX8_readTenant_70 rfl rfl ?_
      refine pE_ldcS (i := 7) dX8_readTenant_71 rfl ?_
      refine pE_callV (d' := 7) (as := [_]) dX8_readTenant_73 lkX8_133 (cwX8_readWord _ _) ivX8_readWord ⟨_, rfl, rfl⟩ (by first | assumption | rfl) rfl rfl (Nat.le_of_ble_eq_true rfl) (by decide) pKK ?_
      refine M_X8_readWord hT6 (z6.ho ho (by omega)) (show 7 ∈ ownI by decide) (fun I7 J7 x7 y7 z7 => ?_)
      have hT7 := hT6.L ho x7.L
      have f7 := f6.tr x7.L
      have c7 : ∀ q, tn2 B n p D = .inr q → cH o (upN (upN D.1 (8 + D.1 1) (fvN B n 5 (tn0 B n p D))) (16 + D.1 1) (fvN B n 6 (tn1 B n p D))) I7 := fun q e => (c6 q e).r2 ho x7
      refine pE_aload_n dX8_readTenant_76 rfl rfl ?_
      refine pE_getR dX8_readTenant_77 flX8_146 rfl (by first | assumption | rfl) (by first | assumption | rfl) ?_
      refine pE_iload_n dX8_readTenant_80 rfl rfl ?_
      refine pE_aload_n dX8_readTenant_81 rfl rfl ?_
      refine pE_iconst (v := nI 0) dX8_readTenant_82 rfl ?_
      refine pE_bipush (v := nI 9) dX8_readTenant_83 rfl ?_
      refine pE_callV (d' := 7) (as := [_, _]) dX8_readTenant_85 lkX8_86 (cwX8_readNumber _ _) ivX8_readNumber ⟨_, rfl, rfl⟩ (by first | assumption | rfl) rfl rfl (Nat.le_of_ble_eq_true rfl) (by decide) pKK ?_
      refine M_X8_readNumber hT7 z7 (lo := 0) (hi := 9) (by omega) (by omega) (fun I8 J8 v3 x8 y8 z8 w8 => ?_)
      have hT8 : tpC (pu I8 (o + 3) (D.1 1) v3) n B := (hT7.L ho x8.L).L ho (sRL.rf.hp (by omega))
      have f8 := (f7.tr x8.L).tr (sRL.rf.hp (c := o + 3) (k := D.1 1) (x := v3) (by omega))
      have c8 : ∀ q, tn3 B n p D = .inr q → cH o (upN (upN (upN D.1 (8 + D.1 1) (fvN B n 5 (tn0 B n p D))) (16 + D.1 1) (fvN B n 6 (tn1 B n p D))) (24 + D.1 1) (fvN B n 7 (tn2 B n p D))) (pu I8 (o + 3) (D.1 1) v3) := fun q e => by
        rw [w8 q e]
        exact (cH.r2 ho (c7 (fdN_v e).2.choose (fdN_v e).2.choose_spec) x8).w24 ht
      refine pE_iastoreN dX8_readTenant_88 (by first | assumption | rfl) (by first | assumption | omega) (by omega) ?_
      refine pE_aload_n dX8_readTenant_89 rfl rfl ?_
      refine pE_ldcS (i := 8) dX8_readTenant_90 rfl ?_
      refine pE_callV (d' := 7) (as := [_]) dX8_readTenant_92 lkX8_133 (cwX8_readWord _ _) ivX8_readWord ⟨_, rfl, rfl⟩ (by first | assumption | rfl) rfl rfl (Nat.le_of_ble_eq_true rfl) (by decide) pKK ?_
      refine M_X8_readWord hT8 (z8.ho ho (by omega)) (show 8 ∈ ownI by decide) (fun I9 J9 x9 y9 z9 => ?_)
      have hT9 := hT8.L ho x9.L
      have f9 := f8.tr x9.L
      have c9 : ∀ q, tn3 B n p D = .inr q → cH o (upN (upN (upN D.1 (8 + D.1 1) (fvN B n 5 (tn0 B n p D))) (16 + D.1 1) (fvN B n 6 (tn1 B n p D))) (24 + D.1 1) (fvN B n 7 (tn2 B n p D))) I9 := fun q e => (c8 q e).r2 ho x9
      refine pE_aload_n dX8_readTenant_95 rfl rfl ?_
      refine pE_getR dX8_readTenant_96 flX8_150 rfl (by first | assumption | rfl) (by first | assumption | rfl) ?_
      refine pE_iload_n dX8_readTenant_99 rfl rfl ?_
      refine pE_aload_n dX8_readTenant_100 rfl rfl ?_
      refine pE_iconst (v := nI 0) dX8_readTenant_101 rfl ?_
      refine pE_sipush (v := nI 999) dX8_readTenant_102 rfl ?_
      refine pE_callV (d' := 7) (as := [_, _]) dX8_readTenant_105 lkX8_86 (cwX8_readNumber _ _) ivX8_readNumber ⟨_, rfl, rfl⟩ (by first | assumption | rfl) rfl rfl (Nat.le_of_ble_eq_true rfl) (by decide) pKK ?_
      refine M_X8_readNumber hT9 z9 (lo := 0) (hi := 999) (by omega) (by omega) (fun I10 J10 v4 x10 y10 z10 w10 => ?_)
      have z10 : cRd B n I10 J10 (tn4 B n p D) := z10
      have hT10 : tpC (pu I10 (o + 4) (D.1 1) v4) n B := (hT9.L ho x10.L).L ho (sRL.rf.hp (by omega))
      have f10 := (f9.tr x10.L).tr (sRL.rf.hp (c := o + 4) (k := D.1 1) (x := v4) (by omega))
      have c10 : ∀ q, tn4 B n p D = .inr q → cH o (upN (upN (upN (upN D.1 (8 + D.1 1) (fvN B n 5 (tn0 B n p D))) (16 + D.1 1) (fvN B n 6 (tn1 B n p D))) (24 + D.1 1) (fvN B n 7 (tn2 B n p D))) (32 + D.1 1) (fvN B n 8 (tn3 B n p D))) (pu I10 (o + 4) (D.1 1) v4) := fun q e => by
        rw [w10 q e]
        exact (cH.r2 ho (c9 (fdN_v e).2.choose (fdN_v e).2.choose_spec) x10).w32 ht
      refine pE_iastoreN dX8_readTenant_108 (by first | assumption | rfl) (by first | assumption | omega) (by omega) ?_
      refine pE_aload_n dX8_readTenant_109 rfl rfl ?_
      refine pE_ldcS (i := 9) dX8_readTenant_110 rfl ?_
      refine pE_callV (d' := 5) (as := [_]) dX8_readTenant_112 lkX8_58 (cwX8_isNext _ _) ivX8_isNext ⟨_, rfl, rfl⟩ (by first | assumption | rfl) rfl rfl (Nat.le_of_ble_eq_true rfl) (by decide) pKK ?_
      refine M_X8_isNext (z10.ho ho (by omega)) (show 9 ∈ ownI by decide) (fun zl => ?_) (fun zl => ?_)
      · refine pE_if_eq_f (tgt := 135) dX8_readTenant_115 (by decide) nI_1n0 ?_
        refine pE_aload_n dX8_readTenant_118 rfl rfl ?_
        refine pE_callV (d' := 6) (as := []) dX8_readTenant_119 lkX8_85 (cwX8_step _ _) ivX8_step ⟨_, rfl, rfl⟩ (by first | assumption | rfl) rfl rfl (Nat.le_of_ble_eq_true rfl) (by decide) pKK ?_
        refine M_X8_stepR hT10 (z10.ho ho (by omega)) (fun I11 J11 x11 y11 z11 => ?_)
        have hT11 := hT10.L ho x11.L
        refine pE_aload_n dX8_readTenant_122 rfl rfl ?_
        refine pE_getR dX8_readTenant_123 flX8_154 rfl (by first | assumption | rfl) (by first | assumption | rfl) ?_
        refine pE_iload_n dX8_readTenant_126 rfl rfl ?_
        refine pE_aload_n dX8_readTenant_127 rfl rfl ?_
        refine pE_iconst (v := nI 0) dX8_readTenant_128 rfl ?_
        refine pE_bipush (v := nI 100) dX8_readTenant_129 rfl ?_
        refine pE_callV (d' := 7) (as := [_, _]) dX8_readTenant_131 lkX8_86 (cwX8_readNumber _ _) ivX8_readNumber ⟨_, rfl, rfl⟩ (by first | assumption | rfl) rfl rfl (Nat.le_of_ble_eq_true rfl) (by decide) pKK ?_
        refine M_X8_readNumber hT11 z11 (lo := 0) (hi := 100) (by omega) (by omega) (fun I12 J12 v5 x12 y12 z12 w12 => ?_)
        refine pE_iastoreN dX8_readTenant_134 (by first | assumption | rfl) (by first | assumption | omega) (by omega) ?_
        have c12 : ∀ q, tn5 B n p D = .inr q → cH o (upN (upN (upN (upN (upN D.1 (8 + D.1 1) (fvN B n 5 (tn0 B n p D))) (16 + D.1 1) (fvN B n 6 (tn1 B n p D))) (24 + D.1 1) (fvN B n 7 (tn2 B n p D))) (32 + D.1 1) (fvN B n 8 (tn3 B n p D))) (40 + D.1 1) (opV B n 9 (tn4 B n p D))) (pu I12 (o + 5) (D.1 1) v5) := fun q e => by
          have e1 : tn5 B n p D = rdN B n 0 100 (sp1 B n (tn4 B n p D)) := by unfold tn5 opN; rw [if_pos zl, sp1_w zl]
          have e2 : opV B n 9 (tn4 B n p D) = vlN B n (sp1 B n (tn4 B n p D)) := by unfold opV; rw [if_pos zl, sp1_w zl]
          rw [w12 q (e1.symm.trans e), e2]
          have q4 := (opN_v e).2.choose_spec
          exact (((c10 _ q4).r2 ho x11).r2 ho x12).w40 ht
        have e1 : tn5 B n p D = rdN B n 0 100 (sp1 B n (tn4 B n p D)) := by unfold tn5 opN; rw [if_pos zl, sp1_w zl]
        have ht2 : pu I12 (o + 5) (D.1 1) v5 o 2 = nI (D.1 1) := by
          rw [pu_ne _ _ _ (by omega), x12 _ _ (by omega) (by omega), x11 _ _ (by omega) (by omega), pu_ne _ _ _ (by omega), x10 _ _ (by omega) (by omega), x9 _ _ (by omega) (by omega), pu_ne _ _ _ (by omega), x8 _ _ (by omega) (by omega), x7 _ _ (by omega) (by omega), pu_ne _ _ _ (by omega), x6 _ _ (by omega) (by omega), x5 _ _ (by omega) (by omega), pu_ne _ _ _ (by omega), x4 _ _ (by omega) (by omega), x3 _ _ (by omega) (by omega), x2 _ _ (by omega) (by omega), x1 _ _ (by omega) (by omega)]; exact h2
        refine pE_aload_n dX8_readTenant_135 rfl rfl ?_
        refine pE_dupR dX8_readTenant_136 ?_
        refine pE_getI dX8_readTenant_137 flX8_125 rfl (Or.inl rfl) (by first | assumption | rfl) ?_
        rw [ht2]
        refine pE_iconst (v := nI 1) dX8_readTenant_140 rfl ?_
        refine pE_iaddN dX8_readTenant_141 ?_
        refine pE_putI dX8_readTenant_142 flX8_125 ftX2 fiX2_2 rfl rfl (by first | assumption | rfl) ?_
        refine pE_vret dX8_readTenant_145 rfl rfl ?_
        have kfr : ∀ c k, ¬ (c = 4 ∧ 2 ≤ k) → ¬ (c = 2 ∧ 6 ≤ k) → ¬ (o + 1 ≤ c ∧ c ≤ o + 5) → ¬ (c = o ∧ k = 2) → pu (pu I12 (o + 5) (D.1 1) v5) o 2 (nI (D.1 1 + 1)) c k = I c k := fun c k q1 q2 q3 q4 => by
          rw [pu_at, if_neg (by omega), pu_at, if_neg (by omega), x12 c k q1 q2, x11 c k q1 q2, pu_at, if_neg (by omega), x10 c k q1 q2, x9 c k q1 q2, pu_at, if_neg (by omega), x8 c k q1 q2, x7 c k q1 q2, pu_at, if_neg (by omega), x6 c k q1 q2, x5 c k q1 q2, pu_at, if_neg (by omega), x4 c k q1 q2, x3 c k q1 q2, x2 c k q1 q2, x1 c k q1 q2]
        obtain ⟨a, b, c, d, e, f, k⟩ := hD
        refine hq _ _ ((f10.tr x11.L).tr ((x12.L.hp (by omega)).hp (by omega))) (y1.l.tr (y2.tr (y3.tr (y4.tr (y5.tr (y6.tr (y7.tr (y8.tr (y9.tr (y10.tr (y11.tr y12))))))))).l)) (by rw [e1]; exact (z12.ho ho (by omega)).ho ho (by omega)) (fun q hh => ?_)
        refine ⟨?_, b.fr (kfr _ _ (by omega) (by omega) (by omega) (by omega)) (fun i => kfr _ _ (by omega) (by omega) (by omega) (by omega)) (fun i => kfr _ _ (by omega) (by omega) (by omega) (by omega)), c.fr (kfr _ _ (by omega) (by omega) (by omega) (by omega)) (fun i => kfr _ _ (by omega) (by omega) (by omega) (by omega)) (fun i => kfr _ _ (by omega) (by omega) (by omega) (by omega)), (kfr _ _ (by omega) (by omega) (by omega) (by omega)).trans d, (kfr _ _ (by omega) (by omega) (by omega) (by omega)).trans e, (kfr _ _ (by omega) (by omega) (by omega) (by omega)).trans f, ?_⟩
        · exact (c12 q hh).u1
        · have q4 := (opN_v hh).2.choose_spec
          have q3 := (fdN_v q4).2.choose_spec
          have q2 := (fdN_v q3).2.choose_spec
          have q1 := (fdN_v q2).2.choose_spec
          have q0 := (fdN_v q1).2.choose_spec
          exact ((w2 _ q0).j4 (y3.tr (y4.tr (y5.tr (y6.tr (y7.tr (y8.tr (y9.tr (y10.tr (y11.tr y12))))))))))
      · refine pE_if_eq_t (tgt := 135) dX8_readTenant_115 (by decide) nI_0 ?_
        have e1 : tn5 B n p D = tn4 B n p D := by unfold tn5 opN; rw [if_neg zl]
        have e2 : opV B n 9 (tn4 B n p D) = 0 := by unfold opV; rw [if_neg zl]
        have c12 : ∀ q, tn5 B n p D = .inr q → cH o (upN (upN (upN (upN (upN D.1 (8 + D.1 1) (fvN B n 5 (tn0 B n p D))) (16 + D.1 1) (fvN B n 6 (tn1 B n p D))) (24 + D.1 1) (fvN B n 7 (tn2 B n p D))) (32 + D.1 1) (fvN B n 8 (tn3 B n p D))) (40 + D.1 1) (opV B n 9 (tn4 B n p D))) (pu I10 (o + 4) (D.1 1) v4) := fun q e => by
          rw [e2]
          refine (c10 q (e1.symm.trans e)).z40 ?_
          rw [upN_n (by omega), upN_n (by omega), upN_n (by omega), upN_n (by omega)]; exact hz
        have ht2 : pu I10 (o + 4) (D.1 1) v4 o 2 = nI (D.1 1) := by
          rw [pu_ne _ _ _ (by omega), x10 _ _ (by omega) (by omega), x9 _ _ (by omega) (by omega), pu_ne _ _ _ (by omega), x8 _ _ (by omega) (by omega), x7 _ _ (by omega) (by omega), pu_ne _ _ _ (by omega), x6 _ _ (by omega) (by omega), x5 _ _ (by omega) (by omega), pu_ne _ _ _ (by omega), x4 _ _ (by omega) (by omega), x3 _ _ (by omega) (by omega), x2 _ _ (by omega) (by omega), x1 _ _ (by omega) (by omega)]; exact h2
        refine pE_aload_n dX8_readTenant_135 rfl rfl ?_
        refine pE_dupR dX8_readTenant_136 ?_
        refine pE_getI dX8_readTenant_137 flX8_125 rfl (Or.inl rfl) (by first | assumption | rfl) ?_
        rw [ht2]
        refine pE_iconst (v := nI 1) dX8_readTenant_140 rfl ?_
        refine pE_iaddN dX8_readTenant_141 ?_
        refine pE_putI dX8_readTenant_142 flX8_125 ftX2 fiX2_2 rfl rfl (by first | assumption | rfl) ?_
        refine pE_vret dX8_readTenant_145 rfl rfl ?_
        have kfr : ∀ c k, ¬ (c = 4 ∧ 2 ≤ k) → ¬ (c = 2 ∧ 6 ≤ k) → ¬ (o + 1 ≤ c ∧ c ≤ o + 5) → ¬ (c = o ∧ k = 2) → pu (pu I10 (o + 4) (D.1 1) v4) o 2 (nI (D.1 1 + 1)) c k = I c k := fun c k q1 q2 q3 q4 => by
          rw [pu_at, if_neg (by omega), pu_at, if_neg (by omega), x10 c k q1 q2, x9 c k q1 q2, pu_at, if_neg (by omega), x8 c k q1 q2, x7 c k q1 q2, pu_at, if_neg (by omega), x6 c k q1 q2, x5 c k q1 q2, pu_at, if_neg (by omega), x4 c k q1 q2, x3 c k q1 q2, x2 c k q1 q2, x1 c k q1 q2]
        obtain ⟨a, b, c, d, e, f, k⟩ := hD
        refine hq _ _ (f10.tr (sRL.rf.hp (by omega))) (y1.l.tr (y2.tr (y3.tr (y4.tr (y5.tr (y6.tr (y7.tr (y8.tr (y9.tr y10))))))).l)) (by rw [e1]; exact (z10.ho ho (by omega)).ho ho (by omega)) (fun q hh => ?_)
        refine ⟨?_, b.fr (kfr _ _ (by omega) (by omega) (by omega) (by omega)) (fun i => kfr _ _ (by omega) (by omega) (by omega) (by omega)) (fun i => kfr _ _ (by omega) (by omega) (by omega) (by omega)), c.fr (kfr _ _ (by omega) (by omega) (by omega) (by omega)) (fun i => kfr _ _ (by omega) (by omega) (by omega) (by omega)) (fun i => kfr _ _ (by omega) (by omega) (by omega) (by omega)), (kfr _ _ (by omega) (by omega) (by omega) (by omega)).trans d, (kfr _ _ (by omega) (by omega) (by omega) (by omega)).trans e, (kfr _ _ (by omega) (by omega) (by omega) (by omega)).trans f, ?_⟩
        · exact (c12 q hh).u1
        · have q4 := (opN_v hh).2.choose_spec
          have q3 := (fdN_v q4).2.choose_spec
          have q2 := (fdN_v q3).2.choose_spec
          have q1 := (fdN_v q2).2.choose_spec
          have q0 := (fdN_v q1).2.choose_spec
          exact ((w2 _ q0).j4 (y3.tr (y4.tr (y5.tr (y6.tr (y7.tr (y8.tr (y9.tr y10))))))))
    · have g12 := nq_nlt (by omega) (by omega) h12
      omega
