theorem pR_sw (t g : Nat) : pu (pu (pR t g) 0 3 (some g)) 0 4 (some t) = pR g t := by
  funext c k
  by_cases hc : c = 0
  · subst hc
    by_cases h4 : k = 4
    · subst h4; rfl
    · by_cases h3 : k = 3
      · subst h3; rfl
      · rw [pu_at, if_neg (fun q => h4 q.2), pu_at, if_neg (fun q => h3 q.2)]
        match k, h3, h4 with
        | 0, _, _ => rfl
        | 1, _, _ => rfl
        | 2, _, _ => rfl
        | 3, h, _ => exact absurd rfl h
        | 4, _, h => exact absurd rfl h
        | k + 5, _, _ => rfl
  · rw [pu_ne _ _ _ hc, pu_ne _ _ _ hc]
    match c, hc with
    | 0, h => exact absurd rfl h
    | c + 1, _ => rfl
theorem cS.fr {T : pN} {I I1 : pHI} (h : cS 33 T I) (hx : ∀ c k, 33 ≤ c → c ≤ 36 → I1 c k = I c k) : cS 33 T I1 := by
  obtain ⟨a, b, c, d, e⟩ := h
  refine ⟨(hx 33 _ (by omega) (by omega)).trans a, (hx 33 _ (by omega) (by omega)).trans b, (hx 33 _ (by omega) (by omega)).trans c, (hx 33 _ (by omega) (by omega)).trans d, fun j hj => ?_⟩
  rw [hx _ _ (by omega) (by omega), hx _ _ (by omega) (by omega), hx _ _ (by omega) (by omega)]
  exact e j hj
def sBg (I I1 : pHI) : Prop := ∀ c k, ¬ (c = 33 ∧ 3 ≤ k) → ¬ (34 ≤ c ∧ c ≤ 36) → I1 c k = I c k
set_option maxHeartbeats 400000 in
set_option maxRecDepth 100000 in
theorem L_X2_begin {l : Launch} {X : pX} {t g : Nat} {I : pHI} {J : pHJ} {Q : pQ} {o : Nat} {H : pN} (ho : isH o) (hH : cH o H I) (hq : ∀ I1, sBg I I1 → cS 33 (bgT H) I1 → Q none I1 J (pR t g)) : ∀ (fu : Nat) (j : Nat) (I1 : pHI), 8 - j < fu → (j ≤ 8) → (sBg I I1) → (∀ i, i < j → I1 34 i = nI (H (16 + i)) ∧ I1 35 i = nI 0 ∧ I1 36 i = nI 0) → pE l X mX2_begin 0 pK 2 [some (.ref o), some (.ref 33), some (.int (nI j))] [] pK I1 J (pR t g) Q := by
  intro fu
  induction fu with
  | zero => intro j I1 hn; exact absurd hn (Nat.not_lt_zero _)
  | succ fu ih =>
    intro j I1 hn hj hx hv
    obtain ⟨fHho0, fHho1, fHho2, fHho3, fHho4, fHho5, fHho6, fHho7, fHho8, fHho9, fHho10, fHho11, fHho12, fHho13, fHho14, fHho15, fHho16, fHho17, fHho18, fHho19, fHho20, fHho21, fHho22, fHho23, fHho24, fHho25, fHho26⟩ := HF t g ho
    have hb := isH_b ho
    obtain ⟨fSs0, fSs1, fSs2, fSs3, fSs4, fSs5, fSs6⟩ := SF t g (Or.inl rfl : isS 33)
    obtain ⟨hh0, hh1, hh2, hh3, hh4, hh5⟩ := hH
    refine pE_iload_n dX2_begin_2 rfl rfl ?_
    refine pE_bipush (v := nI 8) dX2_begin_3 rfl ?_
    refine pE_icmp_ge (tgt := 40) dX2_begin_5 (by decide) (fun h5 => ?_) (fun h5 => ?_)
    · have g5 := nq_le (by omega) (by omega) h5
      refine pE_aload_n dX2_begin_40 rfl rfl ?_
      refine pE_iconst (v := nI 0) dX2_begin_41 rfl ?_
      refine pE_putI dX2_begin_42 flX2_75 ftX9 fiX9_3 rfl rfl (by first | assumption | rfl) ?_
      refine pE_aload_n dX2_begin_45 rfl rfl ?_
      refine pE_aload_n dX2_begin_46 rfl rfl ?_
      refine pE_getI dX2_begin_47 flX2_15 rfl (Or.inl rfl) (by first | assumption | rfl) ?_
      rw [show (pu I1 33 3 (nI 0)) o 1 = nI (H 2) from by rw [pu_ne _ _ _ (by omega)]; exact (hx o 1 (by omega) (by omega)).trans hh1]
      refine pE_putI dX2_begin_50 flX2_78 ftX9 fiX9_4 rfl rfl (by first | assumption | rfl) ?_
      refine pE_aload_n dX2_begin_53 rfl rfl ?_
      refine pE_iconst (v := nI 0) dX2_begin_54 rfl ?_
      refine pE_putI dX2_begin_55 flX2_81 ftX9 fiX9_5 rfl rfl (by first | assumption | rfl) ?_
      refine pE_aload_n dX2_begin_58 rfl rfl ?_
      refine pE_aload_n dX2_begin_59 rfl rfl ?_
      refine pE_getI dX2_begin_60 flX2_47 rfl (Or.inl rfl) (by first | assumption | rfl) ?_
      rw [show (pu (pu (pu I1 33 3 (nI 0)) 33 4 (nI (H 2))) 33 5 (nI 0)) o 10 = nI (H 3) from by rw [pu_ne _ _ _ (by omega), pu_ne _ _ _ (by omega), pu_ne _ _ _ (by omega)]; exact (hx o 10 (by omega) (by omega)).trans hh3]
      refine pE_putI dX2_begin_63 flX2_84 ftX9 fiX9_6 rfl rfl (by first | assumption | rfl) ?_
      refine pE_vret dX2_begin_66 rfl rfl ?_
      have hf : ∀ c k, ¬ (c = 33 ∧ 3 ≤ k) → pu (pu (pu (pu I1 33 3 (nI 0)) 33 4 (nI (H 2))) 33 5 (nI 0)) 33 6 (nI (H 3)) c k = I1 c k := fun c k z => by
        rw [pu_at, if_neg (by omega), pu_at, if_neg (by omega), pu_at, if_neg (by omega), pu_at, if_neg (by omega)]
      refine hq _ (fun c k a b => by rw [hf c k a]; exact hx c k a b) ⟨?_, ?_, ?_, ?_, fun i hi => ?_⟩
      · rw [pu_at, if_neg (by omega), pu_at, if_neg (by omega), pu_at, if_neg (by omega), pu_at, if_pos ⟨rfl, rfl⟩]; rfl
      · rw [pu_at, if_neg (by omega), pu_at, if_neg (by omega), pu_at, if_pos ⟨rfl, rfl⟩]; rfl
      · rw [pu_at, if_neg (by omega), pu_at, if_pos ⟨rfl, rfl⟩]; rfl
      · rw [pu_at, if_pos ⟨rfl, rfl⟩]; rfl
      · obtain ⟨v1, v2, v3⟩ := hv i (by omega)
        rw [hf _ _ (by omega), hf _ _ (by omega), hf _ _ (by omega)]
        have e1 : bgT H i = H (16 + i) := if_pos hi
        have e2 : bgT H (8 + i) = 0 := by unfold bgT; rw [if_neg (by omega), if_neg (by omega), if_neg (by omega)]
        have e3 : bgT H (16 + i) = 0 := by unfold bgT; rw [if_neg (by omega), if_neg (by omega), if_neg (by omega)]
        rw [e1, e2, e3]
        exact ⟨v1, v2, v3⟩
    · have g5 := nq_nle (by omega) (by omega) h5
      refine pE_aload_n dX2_begin_8 rfl rfl ?_
      refine pE_getR dX2_begin_9 flX2_64 rfl (by first | assumption | rfl) (by first | assumption | rfl) ?_
      refine pE_iload_n dX2_begin_12 rfl rfl ?_
      refine pE_aload_n dX2_begin_13 rfl rfl ?_
      refine pE_getR dX2_begin_14 flX2_25 rfl (by first | assumption | rfl) (by first | assumption | rfl) ?_
      refine pE_iload_n dX2_begin_17 rfl rfl ?_
      refine pE_ialoadN dX2_begin_18 (by first | assumption | rfl) (by first | assumption | omega) (by omega) ?_
      rw [(hx (o + 2) j (by omega) (by omega)).trans (hh5 j (by omega)).2.1]
      refine pE_iastoreN dX2_begin_19 (by first | assumption | rfl) (by first | assumption | omega) (by omega) ?_
      refine pE_aload_n dX2_begin_20 rfl rfl ?_
      refine pE_getR dX2_begin_21 flX2_69 rfl (by first | assumption | rfl) (by first | assumption | rfl) ?_
      refine pE_iload_n dX2_begin_24 rfl rfl ?_
      refine pE_iconst (v := nI 0) dX2_begin_25 rfl ?_
      refine pE_iastoreN dX2_begin_26 (by first | assumption | rfl) (by first | assumption | omega) (by omega) ?_
      refine pE_aload_n dX2_begin_27 rfl rfl ?_
      refine pE_getR dX2_begin_28 flX2_72 rfl (by first | assumption | rfl) (by first | assumption | rfl) ?_
      refine pE_iload_n dX2_begin_31 rfl rfl ?_
      refine pE_iconst (v := nI 0) dX2_begin_32 rfl ?_
      refine pE_iastoreN dX2_begin_33 (by first | assumption | rfl) (by first | assumption | omega) (by omega) ?_
      refine pE_iincN (c0 := 1) (lc' := [_, _, some (.int _)]) dX2_begin_34 rfl rfl rfl rfl ?_
      refine pE_goto (tgt := 2) dX2_begin_37 (by decide) ?_
      refine ih (j + 1) _ (by omega) (by omega) (fun c k a b => ?_) (fun i hi => ?_)
      · rw [pu_ne _ _ _ (by omega), pu_ne _ _ _ (by omega), pu_ne _ _ _ (by omega)]; exact hx c k a b
      · refine ⟨?_, ?_, ?_⟩
        · rw [pu_ne _ _ _ (by decide), pu_ne _ _ _ (by decide), pu_at]
          split
          · rename_i z; rw [z.2]
          · exact (hv i (by omega)).1
        · rw [pu_ne _ _ _ (by decide), pu_at]
          split
          · rfl
          · rw [pu_ne _ _ _ (by decide)]; exact (hv i (by omega)).2.1
        · rw [pu_at]
          split
          · rfl
          · rw [pu_ne _ _ _ (by decide), pu_ne _ _ _ (by decide)]; exact (hv i (by omega)).2.2
set_option maxHeartbeats 400000 in
set_option maxRecDepth 100000 in
theorem M_X2_begin {l : Launch} {X : pX} {t g : Nat} {I : pHI} {J : pHJ} {Q : pQ} {o : Nat} {H : pN} (ho : isH o) (hH : cH o H I) (hq : ∀ I1, sBg I I1 → cS 33 (bgT H) I1 → Q none I1 J (pR t g)) : pM l X yX2_begin mX2_begin 0 [.ref o, .ref 33] pK pK I J (pR t g) Q := by
  obtain ⟨fHho0, fHho1, fHho2, fHho3, fHho4, fHho5, fHho6, fHho7, fHho8, fHho9, fHho10, fHho11, fHho12, fHho13, fHho14, fHho15, fHho16, fHho17, fHho18, fHho19, fHho20, fHho21, fHho22, fHho23, fHho24, fHho25, fHho26⟩ := HF t g ho
  have hb := isH_b ho
  refine pM_of rfl (fun h => by cases h) rfl pKM (Nat.le_of_ble_eq_true rfl) ?_
  refine pE_iconst (v := nI 0) dX2_begin_0 rfl ?_
  refine pE_istore_n (lc' := [_, _, some (.int _)]) dX2_begin_1 rfl (Nat.le_of_ble_eq_true rfl) rfl rfl ?_
  exact L_X2_begin ho hH hq 9 0 I (by omega) (by omega) (fun _ _ _ _ => rfl) (fun i hi => absurd hi (by omega))
set_option maxHeartbeats 400000 in
set_option maxRecDepth 100000 in
theorem M_X0_clear {l : Launch} {X : pX} {t g : Nat} {I : pHI} {J : pHJ} {Q : pQ}  (hq : Q none (pu I 47 5 (nI 0)) J (pR t g)) : pM l X yX0_clear mX0_clear 0 [.ref 47] pK pK I J (pR t g) Q := by
  refine pM_of rfl (fun h => by cases h) rfl pKM (Nat.le_of_ble_eq_true rfl) ?_
  refine pE_aload_n dX0_clear_0 rfl rfl ?_
  refine pE_iconst (v := nI 0) dX0_clear_1 rfl ?_
  refine pE_putI dX0_clear_2 flX0_28 ftX0 fiX0_5 rfl rfl (by first | assumption | rfl) ?_
  refine pE_vret dX0_clear_5 rfl rfl ?_
  exact hq
/-! the class's house: the spare HOUSE o is the one that is told then *) -/
def hsC (o : Nat) (D : pDt) (I : pHI) : Prop := cH o D.1 I ∧ cF (o + 6) (D.2.2.1.getD (dfl 0)) I ∧ cF (o + 10) (D.2.2.2.1.getD (dfl 1)) I ∧ cS 33 (bgT D.1) I ∧ cK I 0 0 0 (fun _ => bgT D.1) ∧ (∀ b, b < 3 → I 44 b = nI 0) ∧ I 47 5 = nI 0 ∧ I 45 1 = nI 0 ∧ I 0 1 = nI 0 ∧ I 2 6 = nI 0 ∧ I 2 7 = -1
def sHf (o : Nat) (I I1 : pHI) : Prop := ∀ c k, ¬ (c = 0 ∧ k = 1) → ¬ (c = 2 ∧ 2 ≤ k) → c ≠ 4 → ¬ (o ≤ c ∧ c ≤ o + 13) → I1 c k = I c k
def sHc (o : Nat) (I I1 : pHI) : Prop := ∀ c k, ¬ (c = 0 ∧ k = 1) → ¬ (c = 2 ∧ 2 ≤ k) → c ≠ 4 → ¬ (o ≤ c ∧ c ≤ o + 13) → ¬ (33 ≤ c ∧ c ≤ 36) → ¬ (41 ≤ c ∧ c ≤ 42) → c ≠ 44 → ¬ (c = 45 ∧ k = 1) → ¬ (c = 47 ∧ k = 5) → ¬ scF c k → I1 c k = I c k
set_option maxHeartbeats 400000 in
set_option maxRecDepth 100000 in
theorem M_X11_house {l : Launch} {X : pX} {t g : Nat} {I : pHI} {J : pHJ} {Q : pQ} {n : Nat} {B : Nat → Nat} (ht : isH t) (hg : isH g) (hTp : cTp I n B) (h1 : ∀ q I1 J1, (txt B n).1 = .inr q → sHc g I I1 → hsC g (txt B n).2 I1 → Q (some (.int (nI ((txt B n).2.1 1)))) I1 J1 (pR g t)) (h0 : ∀ e I1 J1, (txt B n).1 = .inl e → sHf g I I1 → I1 0 1 = nI 0 → I1 2 6 = nI e.1 → I1 2 7 = nI e.2 → e.1 ≤ 4 → e.2 ≤ 1600 → Q (some (.int (-1))) I1 J1 (pR t g)) : pM l X yX11_house mX11_house 74 [.ref 0] pK pK I J (pR t g) Q := by
  have hb := isH_b hg
  have hKg : pK[g]? = some (.inl 2) := (HF t g hg).1
  refine pM_of rfl (fun h => by cases h) rfl pKM (Nat.le_of_ble_eq_true rfl) ?_
  refine pE_aload_n dX11_house_0 rfl rfl ?_
  refine pE_getR dX11_house_1 flX11_22 rfl (by first | assumption | rfl) (by first | assumption | rfl) ?_
  refine pE_aload_n dX11_house_4 rfl rfl ?_
  refine pE_getI dX11_house_5 flX11_13 rfl (Or.inl rfl) (by first | assumption | rfl) ?_
  rw [hTp.1]
  refine pE_aload_n dX11_house_8 rfl rfl ?_
  refine pE_getR dX11_house_9 flX11_33 rfl (by first | assumption | rfl) (by first | assumption | rfl) ?_
  refine pE_callV (d' := 73) (as := [_, _]) dX11_house_12 lkX11_99 (cwX8_read _ _) ivX8_read ⟨_, rfl, rfl⟩ (by first | assumption | rfl) rfl rfl (Nat.le_of_ble_eq_true rfl) (by decide) pKK ?_
  refine M_X8_read hg hTp.2.1 hTp.2.2 (fun q I1 J1 x1 y1 e1 D1 a2 a3 => ?_) (fun e I1 J1 x1 y1 e1 a2 a3 a4 a5 => ?_)
  · refine pE_istore_n (lc' := [_, some (.int _), _]) dX11_house_15 rfl (Nat.le_of_ble_eq_true rfl) rfl rfl ?_
    refine pE_aload_n dX11_house_16 rfl rfl ?_
    refine pE_iconst (v := nI 0) dX11_house_17 rfl ?_
    refine pE_putI dX11_house_18 flX11_13 ftX11 fiX11_1 rfl rfl (by first | assumption | rfl) ?_
    refine pE_iload_n dX11_house_21 rfl rfl ?_
    refine pE_if_ne_t (tgt := 27) dX11_house_22 (by decide) nI_1n0 ?_
    refine pE_aload_n dX11_house_27 rfl rfl ?_
    refine pE_getR dX11_house_28 flX11_29 rfl (by first | assumption | rfl) (by first | assumption | rfl) ?_
    refine pE_astore_n (lc' := [_, _, some (.ref _)]) dX11_house_31 rfl (Nat.le_of_ble_eq_true rfl) rfl rfl ?_
    refine pE_aload_n dX11_house_32 rfl rfl ?_
    refine pE_aload_n dX11_house_33 rfl rfl ?_
    refine pE_getR dX11_house_34 flX11_33 rfl (by first | assumption | rfl) (by first | assumption | rfl) ?_
    refine pE_putR dX11_house_37 flX11_29 ftX11 fiX11_3 (pRt_o _) rfl (by first | assumption | rfl) ?_
    refine pE_aload_n dX11_house_40 rfl rfl ?_
    refine pE_aload_n dX11_house_41 rfl rfl ?_
    refine pE_putR dX11_house_42 flX11_33 ftX11 fiX11_4 (pRt_o _) rfl (by first | assumption | rfl) ?_
    rw [pR_sw]
    refine pE_aload_n dX11_house_45 rfl rfl ?_
    refine pE_getR dX11_house_46 flX11_29 rfl (by first | assumption | rfl) (by first | assumption | rfl) ?_
    refine pE_aload_n dX11_house_49 rfl rfl ?_
    refine pE_getR dX11_house_50 flX11_39 rfl (by first | assumption | rfl) (by first | assumption | rfl) ?_
    refine pE_callV (d' := 0) (as := [_]) dX11_house_53 lkX11_88 (cwX2_begin _ _) ivX2_begin ⟨_, rfl, rfl⟩ (by first | assumption | rfl) rfl rfl (Nat.le_of_ble_eq_true rfl) (by decide) pKK ?_
    refine M_X2_begin hg (D1.1.fr (fun k _ => by rw [pu_ne _ _ _ (by omega)]) (fun c i _ _ => by rw [pu_ne _ _ _ (by omega)])) (fun I2 x2 s2 => ?_)
    refine pE_aload_n dX11_house_56 rfl rfl ?_
    refine pE_getR dX11_house_57 flX11_49 rfl (by first | assumption | rfl) (by first | assumption | rfl) ?_
    refine pE_aload_n dX11_house_60 rfl rfl ?_
    refine pE_getR dX11_house_61 flX11_39 rfl (by first | assumption | rfl) (by first | assumption | rfl) ?_
    refine pE_callV (d' := 2) (as := [_]) dX11_house_64 lkX11_92 (cwX3_restart _ _) ivX3_restart ⟨_, rfl, rfl⟩ (by first | assumption | rfl) rfl rfl (Nat.le_of_ble_eq_true rfl) (by decide) pKK ?_
    refine M_X3_restart s2 (fun I3 x3 k3 => ?_)
    refine pE_aload_n dX11_house_67 rfl rfl ?_
    refine pE_getR dX11_house_68 flX11_49 rfl (by first | assumption | rfl) (by first | assumption | rfl) ?_
    refine pE_callV (d' := 0) (as := []) dX11_house_71 lkX11_103 (cwX3_clearBoxes _ _) ivX3_clearBoxes ⟨_, rfl, rfl⟩ (by first | assumption | rfl) rfl rfl (Nat.le_of_ble_eq_true rfl) (by decide) pKK ?_
    refine M_X3_clearBoxes ?_
    refine pE_aload_n dX11_house_74 rfl rfl ?_
    refine pE_getR dX11_house_75 flX11_63 rfl (by first | assumption | rfl) (by first | assumption | rfl) ?_
    refine pE_callV (d' := 0) (as := []) dX11_house_78 lkX11_106 (cwX0_clear _ _) ivX0_clear ⟨_, rfl, rfl⟩ (by first | assumption | rfl) rfl rfl (Nat.le_of_ble_eq_true rfl) (by decide) pKK ?_
    refine M_X0_clear ?_
    refine pE_aload_n dX11_house_81 rfl rfl ?_
    refine pE_getR dX11_house_82 flX11_56 rfl (by first | assumption | rfl) (by first | assumption | rfl) ?_
    refine pE_callV (d' := 0) (as := []) dX11_house_85 lkX11_109 (cwX5_clear _ _) ivX5_clear ⟨_, rfl, rfl⟩ (by first | assumption | rfl) rfl rfl (Nat.le_of_ble_eq_true rfl) (by decide) pKK ?_
    refine M_X5_clear ?_
    refine pE_aload_n dX11_house_88 rfl rfl ?_
    refine pE_getR dX11_house_89 flX11_29 rfl (by first | assumption | rfl) (by first | assumption | rfl) ?_
    refine pE_getI dX11_house_92 flX11_110 rfl (Or.inl rfl) (by first | assumption | rfl) ?_
    rw [show pu (pu (pz I3 44 (fun q => if q < 3 then nI 0 else I3 44 q)) 47 5 (nI 0)) 45 1 (nI 0) g 2 = nI ((txt B n).2.1 1) from by rw [pu_ne _ _ _ (by omega), pu_ne _ _ _ (by omega), pz_ne _ _ (by omega), x3 _ _ (by omega) (by omega), x2 _ _ (by omega) (by omega), pu_ne _ _ _ (by omega)]; exact D1.1.2.2.1]
    refine pE_iret dX11_house_95 rfl rfl ?_
    have hh : ∀ c k, ¬ (c = 0 ∧ k = 1) → ¬ (33 ≤ c ∧ c ≤ 36) → ¬ (41 ≤ c ∧ c ≤ 42) → c ≠ 44 → ¬ (c = 45 ∧ k = 1) → ¬ (c = 47 ∧ k = 5) → ¬ scF c k → pu (pu (pz I3 44 (fun q => if q < 3 then nI 0 else I3 44 q)) 47 5 (nI 0)) 45 1 (nI 0) c k = I1 c k := fun c k b1 b2 b3 b4 b5 b6 b7 => by
      rw [pu_at, if_neg b5, pu_at, if_neg b6, pz_ne _ _ b4, x3 c k (by omega) (by omega), x2 c k (fun z => b2 (by omega)) (fun z => b2 (by omega)), pu_at, if_neg b1]
    obtain ⟨d1, d2, d3, -⟩ := D1
    refine h1 q _ J1 e1 (fun c k b1 b2 b3 b4 b5 b6 b7 b8 b9 b10 => ?_) ⟨?_, ?_, ?_, ?_, ?_, ?_, ?_, ?_, ?_, ?_, ?_⟩
    · rw [hh c k b1 b5 b6 b7 b8 b9 b10]; exact x1 c k b3 b2 b4
    · exact d1.fr (fun k _ => hh _ _ (by omega) (by omega) (by omega) (by omega) (by omega) (by omega) (by simp only [scF]; omega)) (fun c i _ _ => hh _ _ (by omega) (by omega) (by omega) (by omega) (by omega) (by omega) (by simp only [scF]; omega))
    · exact d2.fr (hh _ _ (by omega) (by omega) (by omega) (by omega) (by omega) (by omega) (by simp only [scF]; omega)) (fun i => hh _ _ (by omega) (by omega) (by omega) (by omega) (by omega) (by omega) (by simp only [scF]; omega)) (fun i => hh _ _ (by omega) (by omega) (by omega) (by omega) (by omega) (by omega) (by simp only [scF]; omega))
    · exact d3.fr (hh _ _ (by omega) (by omega) (by omega) (by omega) (by omega) (by omega) (by simp only [scF]; omega)) (fun i => hh _ _ (by omega) (by omega) (by omega) (by omega) (by omega) (by omega) (by simp only [scF]; omega)) (fun i => hh _ _ (by omega) (by omega) (by omega) (by omega) (by omega) (by omega) (by simp only [scF]; omega))
    · exact (s2.sk x3).fr (fun c k b1 b2 => by rw [pu_ne _ _ _ (by omega), pu_ne _ _ _ (by omega), pz_ne _ _ (by omega)])
    · exact k3.off (fun c k b => by rw [pu_ne _ _ _ (by omega), pu_ne _ _ _ (by omega), pz_ne _ _ (by omega)])
    · intro b hb2
      rw [pu_ne _ _ _ (by decide), pu_ne _ _ _ (by decide), pz_eq]
      exact if_pos hb2
    · rw [pu_ne _ _ _ (by decide), pu_at, if_pos ⟨rfl, rfl⟩]
    · rw [pu_at, if_pos ⟨rfl, rfl⟩]
    · rw [pu_at, if_neg (by omega), pu_at, if_neg (by omega), pz_ne _ _ (by decide), x3 _ _ (by omega) (by omega), x2 _ _ (by omega) (by omega), pu_at, if_pos ⟨rfl, rfl⟩]
    · rw [hh _ _ (by omega) (by omega) (by omega) (by omega) (by omega) (by omega) (by simp only [scF]; omega)]; exact a2
    · rw [hh _ _ (by omega) (by omega) (by omega) (by omega) (by omega) (by omega) (by simp only [scF]; omega)]; exact a3
  · refine pE_istore_n (lc' := [_, some (.int _), _]) dX11_house_15 rfl (Nat.le_of_ble_eq_true rfl) rfl rfl ?_
    refine pE_aload_n dX11_house_16 rfl rfl ?_
    refine pE_iconst (v := nI 0) dX11_house_17 rfl ?_
    refine pE_putI dX11_house_18 flX11_13 ftX11 fiX11_1 rfl rfl (by first | assumption | rfl) ?_
    refine pE_iload_n dX11_house_21 rfl rfl ?_
    refine pE_if_ne_f (tgt := 27) dX11_house_22 (by decide) nI_0 ?_
    refine pE_iconst (v := -1) dX11_house_25 rfl ?_
    refine pE_iret dX11_house_26 rfl rfl ?_
    refine h0 e _ J1 e1 (fun c k b1 b2 b3 b4 => ?_) ?_ ?_ ?_ a4.2 a5
    · rw [pu_at, if_neg b1]; exact x1 c k b3 b2 b4
    · rw [pu_at, if_pos ⟨rfl, rfl⟩]
    · rw [pu_ne _ _ _ (by decide)]; exact a2
    · rw [pu_ne _ _ _ (by decide)]; exact a3
