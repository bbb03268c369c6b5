set_option maxHeartbeats 4000000 in
set_option maxRecDepth 100000 in
theorem L_X2_pullOf {l : Launch} {X : pX} {t g : Nat} {I : pHI} {J : pHJ} {Q : pQ} {o s cl : Nat} {H T : pN} {p : pP} (ho : isH o) (hs : isS s) (hT : cS s T I) (hH : cH o H I) (hr : rH H) (hF : cF (o + 10) p I) (hw : wfp p 0) (hq : ∀ I1, sb I I1 → Q (some (.int (pullV p H T cl))) I1 J (pR t g)) : ∀ (n j : Nat), H 1 - j < n → j ≤ H 1 → pE l X mX2_pullOf 2 pK 5 [some (.ref o), some (.ref s), some (.int (nI cl)), some (.int (nI (sumN (fun j => H (24 + j)) j))), some (.int (nI j))] [] pK I J (pR t g) Q := by
  obtain ⟨fHFho0, fHFho1, fHFho2, fHFho3, fHFho4, fHFho5, fHFho6, fHFho7, fHFho8, fHFho9, fHFho10, fHFho11, fHFho12, fHFho13, fHFho14, fHFho15, fHFho16, fHFho17, fHFho18, fHFho19, fHFho20, fHFho21, fHFho22, fHFho23, fHFho24, fHFho25, fHFho26⟩ := HF t g ho
  obtain ⟨fSFhs0, fSFhs1, fSFhs2, fSFhs3, fSFhs4, fSFhs5, fSFhs6⟩ := SF t g hs
  intro n
  induction n with
  | zero => intro j hn hj; exact absurd hn (Nat.not_lt_zero _)
  | succ n ih =>
    intro j hn hj
    have hn8 := hr.2.1
    refine pE_iload dX2_pullOf_5 rfl ?_
    refine pE_aload_n dX2_pullOf_7 rfl rfl ?_
    refine pE_getI dX2_pullOf_8 flX2_18 rfl (Or.inl rfl) (by first | assumption | rfl) ?_
    rw [hH.2.2.1]
    refine pE_icmp_ge (tgt := 30) dX2_pullOf_11 (by decide) (fun h11 => ?_) (fun h11 => ?_)
    · have g11 := nq_le (by omega) (by omega) h11
      obtain rfl : j = H 1 := by omega
      refine pE_aload_n dX2_pullOf_30 rfl rfl ?_
      refine pE_getR dX2_pullOf_31 flX2_44 rfl (by first | assumption | rfl) (by first | assumption | rfl) ?_
      refine pE_aload_n dX2_pullOf_34 rfl rfl ?_
      refine pE_getI dX2_pullOf_35 flX2_9 rfl (Or.inl rfl) (by first | assumption | rfl) ?_
      rw [hH.1]
      refine pE_iload_n dX2_pullOf_38 rfl rfl ?_
      refine pE_iconst (v := nI 0) dX2_pullOf_39 rfl ?_
      refine pE_aload_n dX2_pullOf_40 rfl rfl ?_
      refine pE_getI dX2_pullOf_41 flX2_81 rfl (Or.inl rfl) (by first | assumption | rfl) ?_
      rw [hT.2.2.1]
      refine pE_iload_n dX2_pullOf_44 rfl rfl ?_
      refine pE_aload_n dX2_pullOf_45 rfl rfl ?_
      refine pE_getI dX2_pullOf_46 flX2_78 rfl (Or.inl rfl) (by first | assumption | rfl) ?_
      rw [hT.2.1]
      refine pE_callV (d' := 1) (as := [_, _, _, _, _, _]) dX2_pullOf_49 lkX2_107 (cwX1_valueOf _ _) ivX1_valueOf ⟨_, rfl, rfl⟩ (by first | assumption | rfl) rfl rfl (Nat.le_of_ble_eq_true rfl) (by decide) pKK ?_
      refine M_X1_valueOf (x := inp (nI (H 0)) (nI (hvAll H)) (nI 0) T cl) (isF_m ho) hF hw (fun I1 hb => ?_)
      refine pE_iret dX2_pullOf_52 rfl rfl ?_
      exact hq _ hb
    · have g11 := nq_nle (by omega) (by omega) h11
      refine pE_iload_n dX2_pullOf_14 rfl rfl ?_
      refine pE_aload_n dX2_pullOf_15 rfl rfl ?_
      refine pE_getR dX2_pullOf_16 flX2_28 rfl (by first | assumption | rfl) (by first | assumption | rfl) ?_
      refine pE_iload dX2_pullOf_19 rfl ?_
      refine pE_ialoadN dX2_pullOf_21 (by first | assumption | rfl) (by first | assumption | omega) (by omega) ?_
      rw [(hH.2.2.2.2.2 j (by omega)).2.2.1]
      refine pE_iaddN dX2_pullOf_22 ?_
      refine pE_istore_n (lc' := [_, _, _, some (.int _), _]) dX2_pullOf_23 rfl (Nat.le_of_ble_eq_true rfl) rfl rfl ?_
      refine pE_iincN (c0 := 1) (lc' := [_, _, _, _, some (.int _)]) dX2_pullOf_24 rfl rfl rfl rfl ?_
      refine pE_goto (tgt := 5) dX2_pullOf_27 (by decide) ?_
      exact ih (j + 1) (by omega) (by omega)
set_option maxHeartbeats 4000000 in
set_option maxRecDepth 100000 in
theorem M_X2_pullOf {l : Launch} {X : pX} {t g : Nat} {I : pHI} {J : pHJ} {Q : pQ} {o s cl : Nat} {H T : pN} {p : pP} (ho : isH o) (hs : isS s) (hT : cS s T I) (hH : cH o H I) (hr : rH H) (hF : cF (o + 10) p I) (hw : wfp p 0) (hq : ∀ I1, sb I I1 → Q (some (.int (pullV p H T cl))) I1 J (pR t g)) : pM l X yX2_pullOf mX2_pullOf 2 [.ref o, .ref s, .int (nI cl)] pK pK I J (pR t g) Q := by
  obtain ⟨fHFho0, fHFho1, fHFho2, fHFho3, fHFho4, fHFho5, fHFho6, fHFho7, fHFho8, fHFho9, fHFho10, fHFho11, fHFho12, fHFho13, fHFho14, fHFho15, fHFho16, fHFho17, fHFho18, fHFho19, fHFho20, fHFho21, fHFho22, fHFho23, fHFho24, fHFho25, fHFho26⟩ := HF t g ho
  obtain ⟨fSFhs0, fSFhs1, fSFhs2, fSFhs3, fSFhs4, fSFhs5, fSFhs6⟩ := SF t g hs
  refine pM_of rfl (fun h => by cases h) rfl pKM (Nat.le_of_ble_eq_true rfl) ?_
  refine pE_iconst (v := nI 0) dX2_pullOf_0 rfl ?_
  refine pE_istore_n (lc' := [_, _, _, some (.int _), _]) dX2_pullOf_1 rfl (Nat.le_of_ble_eq_true rfl) rfl rfl ?_
  refine pE_iconst (v := nI 0) dX2_pullOf_2 rfl ?_
  refine pE_istore (lc' := [_, _, _, _, some (.int _)]) dX2_pullOf_3 (Nat.le_of_ble_eq_true rfl) rfl rfl ?_
  exact L_X2_pullOf ho hs hT hH hr hF hw hq (H 1 + 1) 0 (by omega) (by omega)
set_option maxHeartbeats 4000000 in
set_option maxRecDepth 100000 in
theorem M_X2_liftBehind {l : Launch} {X : pX} {t g : Nat} {I : pHI} {J : pHJ} {Q : pQ} {o s cl : Nat} {H T : pN} {p : pP} (ho : isH o) (hs : isS s) (hT : cS s T I) (hH : cH o H I) (hr : rH H) (hF : cF (o + 10) p I) (hw : wfp p 0) (hq : ∀ I1, sb I I1 → Q (some (.int (nI (liftN p H T cl)))) I1 J (pR t g)) : pM l X yX2_liftBehind mX2_liftBehind 3 [.ref o, .ref s, .int (nI cl)] pK pK I J (pR t g) Q := by
  obtain ⟨fHFho0, fHFho1, fHFho2, fHFho3, fHFho4, fHFho5, fHFho6, fHFho7, fHFho8, fHFho9, fHFho10, fHFho11, fHFho12, fHFho13, fHFho14, fHFho15, fHFho16, fHFho17, fHFho18, fHFho19, fHFho20, fHFho21, fHFho22, fHFho23, fHFho24, fHFho25, fHFho26⟩ := HF t g ho
  obtain ⟨fSFhs0, fSFhs1, fSFhs2, fSFhs3, fSFhs4, fSFhs5, fSFhs6⟩ := SF t g hs
  have hn20 := hr.1.2
  refine pM_of rfl (fun h => by cases h) rfl pKM (Nat.le_of_ble_eq_true rfl) ?_
  refine pE_iconst (v := nI 0) dX2_liftBehind_0 rfl ?_
  refine pE_aload_n dX2_liftBehind_1 rfl rfl ?_
  refine pE_getI dX2_liftBehind_2 flX2_9 rfl (Or.inl rfl) (by first | assumption | rfl) ?_
  rw [hH.1]
  refine pE_aload_n dX2_liftBehind_5 rfl rfl ?_
  refine pE_getI dX2_liftBehind_6 flX2_78 rfl (Or.inl rfl) (by first | assumption | rfl) ?_
  rw [hT.2.1]
  refine pE_aload_n dX2_liftBehind_9 rfl rfl ?_
  refine pE_aload_n dX2_liftBehind_10 rfl rfl ?_
  refine pE_iload_n dX2_liftBehind_11 rfl rfl ?_
  refine pE_callV (d' := 2) (as := [_, _]) dX2_liftBehind_12 lkX2_126 (cwX2_pullOf _ _) ivX2_pullOf ⟨_, rfl, rfl⟩ (by first | assumption | rfl) rfl rfl (Nat.le_of_ble_eq_true rfl) (by decide) pKK ?_
  refine M_X2_pullOf ho hs hT hH hr hF hw (fun I1 hb => ?_)
  refine pE_iadd dX2_liftBehind_15 ?_
  refine pE_min dX2_liftBehind_16 lkX2_111 (by decide) (Nat.le_of_ble_eq_true rfl) ?_
  refine pE_max dX2_liftBehind_19 lkX2_91 (by decide) (Nat.le_of_ble_eq_true rfl) ?_
  refine pE_iret dX2_liftBehind_22 rfl rfl ?_
  exact cgQ (clp_cls _ (by omega)) (hq _ hb)
set_option maxHeartbeats 4000000 in
set_option maxRecDepth 100000 in
theorem L_X2_passWeek {l : Launch} {X : pX} {t g : Nat} {I : pHI} {J : pHJ} {Q : pQ} {o s : Nat} {H T : pN} {due : Bool} (ho : isH o) (hs : isS s) (hr : rH H) (hrT : ∀ j, j ≤ H 1 → ∀ i, i < 8 → wkJ H due T j (8 + i) ≤ 9999 ∧ wkJ H due T j (16 + i) ≤ 100000000) (hq : ∀ I1, sx s I I1 → cS s (wkJ H due T (H 1)) I1 → Q none I1 J (pR t g)) : ∀ (n j : Nat) (I1 : pHI), H 1 - j < n → j ≤ H 1 → sx s I I1 → cH o H I1 → cS s (wkJ H due T j) I1 → pE l X mX2_passWeek 4 pK 45 [some (.ref o), some (.ref s), some (.int (nI (if due = true then 1 else 0))), some (.int (nI j))] [] pK I1 J (pR t g) Q := by
  obtain ⟨fHFho0, fHFho1, fHFho2, fHFho3, fHFho4, fHFho5, fHFho6, fHFho7, fHFho8, fHFho9, fHFho10, fHFho11, fHFho12, fHFho13, fHFho14, fHFho15, fHFho16, fHFho17, fHFho18, fHFho19, fHFho20, fHFho21, fHFho22, fHFho23, fHFho24, fHFho25, fHFho26⟩ := HF t g ho
  obtain ⟨fSFhs0, fSFhs1, fSFhs2, fSFhs3, fSFhs4, fSFhs5, fSFhs6⟩ := SF t g hs
  intro n
  induction n with
  | zero => intro j I1 hn hj; exact absurd hn (Nat.not_lt_zero _)
  | succ n ih =>
    intro j I1 hn hj hx hH hT
    have hn8 := hr.2.1
    refine pE_iload_n dX2_passWeek_45 rfl rfl ?_
    refine pE_aload_n dX2_passWeek_46 rfl rfl ?_
    refine pE_getI dX2_passWeek_47 flX2_18 rfl (Or.inl rfl) (by first | assumption | rfl) ?_
    rw [hH.2.2.1]
    refine pE_icmp_ge (tgt := 81) dX2_passWeek_50 (by decide) (fun h50 => ?_) (fun h50 => ?_)
    · have g50 := nq_le (by omega) (by omega) h50
      refine pE_vret dX2_passWeek_81 rfl rfl ?_
      obtain rfl : j = H 1 := by omega
      exact hq _ hx hT
    · have g50 := nq_nle (by omega) (by omega) h50
      refine pE_aload_n dX2_passWeek_53 rfl rfl ?_
      refine pE_getR dX2_passWeek_54 flX2_64 rfl (by first | assumption | rfl) (by first | assumption | rfl) ?_
      refine pE_iload_n dX2_passWeek_57 rfl rfl ?_
      refine pE_aload_n dX2_passWeek_58 rfl rfl ?_
      refine pE_getR dX2_passWeek_59 flX2_25 rfl (by first | assumption | rfl) (by first | assumption | rfl) ?_
      refine pE_iload_n dX2_passWeek_62 rfl rfl ?_
      refine pE_ialoadN dX2_passWeek_63 (by first | assumption | rfl) (by first | assumption | omega) (by omega) ?_
      rw [(hH.2.2.2.2.2 j (by omega)).2.1]
      refine pE_iastoreN dX2_passWeek_64 (by first | assumption | rfl) (by first | assumption | omega) (by omega) ?_
      have hT2 := hT.br (v := H (16 + j)) (j := j) (by omega)
      have hx2 : sx s I (pu I1 (s + 1) j (nI (H (16 + j)))) := hx.pu (by omega)
      have hH2 : cH o H (pu I1 (s + 1) j (nI (H (16 + j)))) := hH.off (fun c k a b => by rw [pu_ne _ _ _ (by rcases ho with rfl | rfl <;> rcases hs with rfl | rfl <;> omega)])
      cases due with
      | true =>
        refine pE_iload_n dX2_passWeek_65 rfl rfl ?_
        refine pE_if_eq_f (tgt := 75) dX2_passWeek_66 (by decide) nI_1n0 ?_
        refine pE_aload_n dX2_passWeek_69 rfl rfl ?_
        refine pE_aload_n dX2_passWeek_70 rfl rfl ?_
        refine pE_iload_n dX2_passWeek_71 rfl rfl ?_
        refine pE_callV (d' := 1) (as := [_, _]) dX2_passWeek_72 lkX2_132 (cwX2_payRent _ _) ivX2_payRent ⟨_, rfl, rfl⟩ (by first | assumption | rfl) rfl rfl (Nat.le_of_ble_eq_true rfl) (by decide) pKK ?_
        refine M_X2_payRent (H := H) ho hs (by omega) hT2 (hH2.2.2.2.2.2 j (by omega)).2.2.2.1 (by have := (hrT j (by omega) j (by omega)).1; simp only [up1]; rw [if_neg (by omega)]; exact this) (by have := (hrT j (by omega) j (by omega)).2; simp only [up1]; rw [if_neg (by omega)]; exact this) (hr.2.2.2.2 j (by omega)).2.2.2.1 (fun I2 hx3 hT3 => ?_)
        refine pE_iincN (c0 := 1) (lc' := [_, _, _, some (.int _)]) dX2_passWeek_75 rfl rfl rfl rfl ?_
        refine pE_goto (tgt := 45) dX2_passWeek_78 (by decide) ?_
        exact ih (j + 1) I2 (by omega) (by omega) (hx2.tr hx3) (hH2.sx ho hs hx3) (by simpa only [wkJ, if_pos] using hT3)
      | false =>
        refine pE_iload_n dX2_passWeek_65 rfl rfl ?_
        refine pE_if_eq_t (tgt := 75) dX2_passWeek_66 (by decide) nI_0 ?_
        refine pE_iincN (c0 := 1) (lc' := [_, _, _, some (.int _)]) dX2_passWeek_75 rfl rfl rfl rfl ?_
        refine pE_goto (tgt := 45) dX2_passWeek_78 (by decide) ?_
        exact ih (j + 1) _ (by omega) (by omega) hx2 hH2 (by simpa only [wkJ, if_neg, Bool.false_eq_true, if_false] using hT2)
set_option maxHeartbeats 4000000 in
set_option maxRecDepth 100000 in
theorem M_X2_passWeek {l : Launch} {X : pX} {t g : Nat} {I : pHI} {J : pHJ} {Q : pQ} {o s B : Nat} {H T : pN} {p : pP} (ho : isH o) (hs : isS s) (hr : rH H) (hT : cS s T I) (hH : cH o H I) (hF : cF (o + 10) p I) (hw : wfp p 0) (hrT : rS B H T) (hq : ∀ I1, sx s I I1 → cS s (weekN p H T) I1 → Q none I1 J (pR t g)) : pM l X yX2_passWeek mX2_passWeek 4 [.ref o, .ref s] pK pK I J (pR t g) Q := by
  obtain ⟨fHFho0, fHFho1, fHFho2, fHFho3, fHFho4, fHFho5, fHFho6, fHFho7, fHFho8, fHFho9, fHFho10, fHFho11, fHFho12, fHFho13, fHFho14, fHFho15, fHFho16, fHFho17, fHFho18, fHFho19, fHFho20, fHFho21, fHFho22, fHFho23, fHFho24, fHFho25, fHFho26⟩ := HF t g ho
  obtain ⟨fSFhs0, fSFhs1, fSFhs2, fSFhs3, fSFhs4, fSFhs5, fSFhs6⟩ := SF t g hs
  have hb2 := hrT.2.1
  have hb4 := hrT.2.2.2.1
  refine pM_of rfl (fun h => by cases h) rfl pKM (Nat.le_of_ble_eq_true rfl) ?_
  refine pE_aload_n dX2_passWeek_0 rfl rfl ?_
  refine pE_aload_n dX2_passWeek_1 rfl rfl ?_
  refine pE_aload_n dX2_passWeek_2 rfl rfl ?_
  refine pE_aload_n dX2_passWeek_3 rfl rfl ?_
  refine pE_getI dX2_passWeek_4 flX2_75 rfl (Or.inl rfl) (by first | assumption | rfl) ?_
  rw [hT.1]
  refine pE_callV (d' := 3) (as := [_, _]) dX2_passWeek_7 lkX2_129 (cwX2_liftBehind _ _) ivX2_liftBehind ⟨_, rfl, rfl⟩ (by first | assumption | rfl) rfl rfl (Nat.le_of_ble_eq_true rfl) (by decide) pKK ?_
  refine M_X2_liftBehind ho hs hT hH hr hF hw (fun I1 hb => ?_)
  refine pE_putI dX2_passWeek_10 flX2_78 ftX9 fiX9_4 rfl rfl (by first | assumption | rfl) ?_
  refine pE_aload_n dX2_passWeek_13 rfl rfl ?_
  refine pE_iconst (v := nI 0) dX2_passWeek_14 rfl ?_
  refine pE_putI dX2_passWeek_15 flX2_75 ftX9 fiX9_3 rfl rfl (by first | assumption | rfl) ?_
  refine pE_aload_n dX2_passWeek_18 rfl rfl ?_
  refine pE_dupR dX2_passWeek_19 ?_
  refine pE_getI dX2_passWeek_20 flX2_81 rfl (Or.inl rfl) (by first | assumption | rfl) ?_
  rw [(((hT.sb hs hb).sc (k := 4) (q := 25) (v := liftN p H T (T 24)) (Or.inr (Or.inl ⟨rfl, rfl⟩))).sc (k := 3) (q := 24) (v := 0) (Or.inl ⟨rfl, rfl⟩)).2.2.1, show up1 (up1 T 25 (liftN p H T (T 24))) 24 0 26 = T 26 from rfl]
  refine pE_iconst (v := nI 1) dX2_passWeek_23 rfl ?_
  refine pE_iadd dX2_passWeek_24 ?_
  rw [nI_add]
  refine pE_putI dX2_passWeek_25 flX2_81 ftX9 fiX9_5 rfl rfl (by first | assumption | rfl) ?_
  have hT9 : cS s (up1 (up1 (up1 T 25 (liftN p H T (T 24))) 24 0) 26 (T 26 + 1)) _ := ((((hT.sb hs hb).sc (k := 4) (q := 25) (v := liftN p H T (T 24)) (Or.inr (Or.inl ⟨rfl, rfl⟩))).sc (k := 3) (q := 24) (v := 0) (Or.inl ⟨rfl, rfl⟩)).sc (k := 5) (q := 26) (v := T 26 + 1) (Or.inr (Or.inr (Or.inl ⟨rfl, rfl⟩))))
  refine pE_aload_n dX2_passWeek_28 rfl rfl ?_
  refine pE_getI dX2_passWeek_29 flX2_81 rfl (Or.inl rfl) (by first | assumption | rfl) ?_
  rw [pu_at, if_pos ⟨rfl, rfl⟩]
  refine pE_iconst (v := nI 4) dX2_passWeek_32 rfl ?_
  refine pE_iremN dX2_passWeek_33 (by omega) (by omega) (by omega) ?_
  refine pE_if_ne (tgt := 41) dX2_passWeek_34 (by decide) (fun h34 => ?_) (fun h34 => ?_)
  · have g34 := nq_ne0 (by omega) h34
    refine pE_iconst (v := nI 0) dX2_passWeek_41 rfl ?_
    refine pE_istore_n (lc' := [_, _, some (.int _), _]) dX2_passWeek_42 rfl (Nat.le_of_ble_eq_true rfl) rfl rfl ?_
    refine pE_iconst (v := nI 0) dX2_passWeek_43 rfl ?_
    refine pE_istore_n (lc' := [_, _, _, some (.int _)]) dX2_passWeek_44 rfl (Nat.le_of_ble_eq_true rfl) rfl rfl ?_
    have hb2 := hrT.2.1
    have hb4 := hrT.2.2.2.1
    have hn8 := hr.2.1
    have hx9 := (((hb.sx (s := s)).pu (c := s) (k := 4) (x := nI (liftN p H T (T 24))) (by omega)).pu (c := s) (k := 3) (x := nI 0) (by omega)).pu (c := s) (k := 5) (x := nI (T 26 + 1)) (by omega)
    refine pE_cg (L_X2_passWeek (due := ((T 26 + 1) % 4 == 0)) ho hs hr (fun j hj i hi => ?_) hq (H 1 + 1) 0 _ (by omega) (by omega) hx9 (hH.sx ho hs hx9) hT9) (by first | (simp [g34]; done) | (have g0 : ¬ (T 26 + 1) % 4 = 0 := by omega
                                                                                                                                                                                                  simp [g0])) rfl rfl rfl rfl
    have h9 := wk_at H ((T 26 + 1) % 4 == 0) (up1 (up1 (up1 T 25 (liftN p H T (T 24))) 24 0) 26 (T 26 + 1)) j (by omega)
    have h10 := h9.2.1 i hi
    have h11 := h9.2.2.1 i hi
    have h12 : up1 (up1 (up1 T 25 (liftN p H T (T 24))) 24 0) 26 (T 26 + 1) (8 + i) = T (8 + i) := by simp only [up1]; rw [if_neg (by omega), if_neg (by omega), if_neg (by omega)]
    have h13 : up1 (up1 (up1 T 25 (liftN p H T (T 24))) 24 0) 26 (T 26 + 1) (16 + i) = T (16 + i) := by simp only [up1]; rw [if_neg (by omega), if_neg (by omega), if_neg (by omega)]
    rw [h12, h13] at h10 h11
    have h14 := hrT.2.2.2.2 i hi
    have h15 := (hr.2.2.2.2 i hi).2.2.2.1
    rw [h10, h11]
    constructor
    · split <;> omega
    · split <;> omega
  · have g34 := nq_eq0 (by omega) h34
    refine pE_iconst (v := nI 1) dX2_passWeek_37 rfl ?_
    refine pE_goto (tgt := 42) dX2_passWeek_38 (by decide) ?_
    refine pE_istore_n (lc' := [_, _, some (.int _), _]) dX2_passWeek_42 rfl (Nat.le_of_ble_eq_true rfl) rfl rfl ?_
    refine pE_iconst (v := nI 0) dX2_passWeek_43 rfl ?_
    refine pE_istore_n (lc' := [_, _, _, some (.int _)]) dX2_passWeek_44 rfl (Nat.le_of_ble_eq_true rfl) rfl rfl ?_
    have hb2 := hrT.2.1
    have hb4 := hrT.2.2.2.1
    have hn8 := hr.2.1
    have hx9 := (((hb.sx (s := s)).pu (c := s) (k := 4) (x := nI (liftN p H T (T 24))) (by omega)).pu (c := s) (k := 3) (x := nI 0) (by omega)).pu (c := s) (k := 5) (x := nI (T 26 + 1)) (by omega)
    refine pE_cg (L_X2_passWeek (due := ((T 26 + 1) % 4 == 0)) ho hs hr (fun j hj i hi => ?_) hq (H 1 + 1) 0 _ (by omega) (by omega) hx9 (hH.sx ho hs hx9) hT9) (by first | (simp [g34]; done) | (have g0 : ¬ (T 26 + 1) % 4 = 0 := by omega
                                                                                                                                                                                                  simp [g0])) rfl rfl rfl rfl
    have h9 := wk_at H ((T 26 + 1) % 4 == 0) (up1 (up1 (up1 T 25 (liftN p H T (T 24))) 24 0) 26 (T 26 + 1)) j (by omega)
    have h10 := h9.2.1 i hi
    have h11 := h9.2.2.1 i hi
    have h12 : up1 (up1 (up1 T 25 (liftN p H T (T 24))) 24 0) 26 (T 26 + 1) (8 + i) = T (8 + i) := by simp only [up1]; rw [if_neg (by omega), if_neg (by omega), if_neg (by omega)]
    have h13 : up1 (up1 (up1 T 25 (liftN p H T (T 24))) 24 0) 26 (T 26 + 1) (16 + i) = T (16 + i) := by simp only [up1]; rw [if_neg (by omega), if_neg (by omega), if_neg (by omega)]
    rw [h12, h13] at h10 h11
    have h14 := hrT.2.2.2.2 i hi
    have h15 := (hr.2.2.2.2 i hi).2.2.2.1
    rw [h10, h11]
    constructor
    · split <;> omega
    · split <;> omega
