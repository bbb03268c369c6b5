set_option maxHeartbeats 4000000 in
set_option maxRecDepth 100000 in
theorem L_X2_climbTillPaid {l : Launch} {X : pX} {t g : Nat} {I : pHI} {J : pHJ} {Q : pQ} {a s B : Nat} {H : pN} {pc : pP} (ht : isH t) (hH : cH t H I) (hr : rH H) (hFc : cF (t + 6) pc I) (hwc : wfp pc 0) (ha : a < 8) (hs1 : 1 ≤ s) (hs : s ≤ 20) : ∀ (n : Nat) (j : Nat) (T1 : pN) (I1 : pHI), 40 - j < n → (j ≤ 40) → (sx 37 I I1) → (cS 37 T1 I1) → (rS B H T1) → (T1 a + j ≤ 40) → (∀ I2, sx 37 I I2 → cS 37 (cltN pc H a s (40 - j) T1) I2 → Q none I2 J (pR t g)) → pE l X mX2_climbTillPaid 3 pK 3 [some (.ref t), some (.ref 37), some (.int (nI a)), some (.int (nI s)), some (.int (nI j))] [] pK I1 J (pR t g) Q := by
  obtain ⟨fHFht0, fHFht1, fHFht2, fHFht3, fHFht4, fHFht5, fHFht6, fHFht7, fHFht8, fHFht9, fHFht10, fHFht11, fHFht12, fHFht13, fHFht14, fHFht15, fHFht16, fHFht17, fHFht18, fHFht19, fHFht20, fHFht21, fHFht22, fHFht23, fHFht24, fHFht25, fHFht26⟩ := HF t g ht
  intro n
  induction n with
  | zero => intro j T1 I1 hn; exact absurd hn (Nat.not_lt_zero _)
  | succ n ih =>
    intro j T1 I1 hn hj hx hT1 hrT1 htj hq
    have hlb := lack_leB hr hrT1 (show a < 8 by omega)
    have hH1 := hH.sx ht (Or.inr rfl) hx
    have hF1 := hFc.sx (isF_c ht) (Or.inr rfl) hx
    obtain ⟨s0, s1, s2, s3, s4, s5, s6⟩ := SF t g (show isS 37 from Or.inr rfl)
    refine pE_iload dX2_climbTillPaid_3 rfl ?_
    refine pE_bipush (v := nI 40) dX2_climbTillPaid_5 rfl ?_
    refine pE_icmp_ge (tgt := 61) dX2_climbTillPaid_7 (by decide) (fun h7 => ?_) (fun h7 => ?_)
    · have g7 := nq_le (by omega) (by omega) h7
      refine pE_vret dX2_climbTillPaid_61 rfl rfl ?_
      exact hq _ hx (by rw [show 40 - j = 0 by omega]; exact hT1)
    · have g7 := nq_nle (by omega) (by omega) h7
      refine pE_aload_n dX2_climbTillPaid_10 rfl rfl ?_
      refine pE_aload_n dX2_climbTillPaid_11 rfl rfl ?_
      refine pE_iload_n dX2_climbTillPaid_12 rfl rfl ?_
      refine pE_callV (d' := 1) (as := [_, _]) dX2_climbTillPaid_13 lkX2_114 (cwX2_lackOf _ _) ivX2_lackOf ⟨_, rfl, rfl⟩ (by first | assumption | rfl) rfl rfl (Nat.le_of_ble_eq_true rfl) (by decide) pKK ?_
      refine M_X2_lackOf (T := T1) (H := H) ht (Or.inr rfl) ha (hH1.2.2.2.2.2 a ha).2.2.2.1 (hT1.2.2.2.2 a ha).2.2 (hT1.2.2.2.2 a ha).2.1 hlb.1 hlb.2.1 hlb.2.2.1 ?_
      refine pE_if_eq (tgt := 34) dX2_climbTillPaid_16 (by decide) (fun h16 => ?_) (fun h16 => ?_)
      · have g16 := nq_eq0 (by omega) h16
        refine pE_vret dX2_climbTillPaid_34 rfl rfl ?_
        exact hq _ hx (by rw [clt_stop _ (by omega)]; exact hT1)
      · have g16 := nq_ne0 (by omega) h16
        refine pE_aload_n dX2_climbTillPaid_19 rfl rfl ?_
        refine pE_getR dX2_climbTillPaid_20 flX2_64 rfl (by first | assumption | rfl) (by first | assumption | rfl) ?_
        refine pE_iload_n dX2_climbTillPaid_23 rfl rfl ?_
        refine pE_ialoadN dX2_climbTillPaid_24 (by first | assumption | rfl) (by first | assumption | omega) (by omega) ?_
        rw [(hT1.2.2.2.2 a ha).1]
        refine pE_aload_n dX2_climbTillPaid_25 rfl rfl ?_
        refine pE_iload_n dX2_climbTillPaid_26 rfl rfl ?_
        refine pE_iconst (v := nI 0) dX2_climbTillPaid_27 rfl ?_
        refine pE_callV (d' := 0) (as := [_, _]) dX2_climbTillPaid_28 lkX2_104 (cwX2_breathFor _ _) ivX2_breathFor ⟨_, rfl, rfl⟩ (by first | assumption | rfl) rfl rfl (Nat.le_of_ble_eq_true rfl) (by decide) pKK ?_
        refine M_X2_breathFor ht (by omega) (by omega) ?_
        rw [brN0]
        refine pE_icmp_ge (tgt := 35) dX2_climbTillPaid_31 (by decide) (fun h31 => ?_) (fun h31 => ?_)
        · have g31 := nq_le (by omega) (by omega) h31
          refine pE_aload_n dX2_climbTillPaid_35 rfl rfl ?_
          refine pE_aload_n dX2_climbTillPaid_36 rfl rfl ?_
          refine pE_iload_n dX2_climbTillPaid_37 rfl rfl ?_
          refine pE_iload_n dX2_climbTillPaid_38 rfl rfl ?_
          refine pE_iconst (v := nI 0) dX2_climbTillPaid_39 rfl ?_
          refine pE_aload_n dX2_climbTillPaid_40 rfl rfl ?_
          refine pE_aload_n dX2_climbTillPaid_41 rfl rfl ?_
          refine pE_iload_n dX2_climbTillPaid_42 rfl rfl ?_
          refine pE_iconst (v := nI 0) dX2_climbTillPaid_43 rfl ?_
          refine pE_iconst (v := nI 0) dX2_climbTillPaid_44 rfl ?_
          refine pE_aload_n dX2_climbTillPaid_45 rfl rfl ?_
          refine pE_getI dX2_climbTillPaid_46 flX2_75 rfl (Or.inl rfl) (by first | assumption | rfl) ?_
          rw [hT1.1]
          refine pE_callV (d' := 2) (as := [_, _, _, _, _]) dX2_climbTillPaid_49 lkX2_118 (cwX2_countOf _ _) ivX2_countOf ⟨_, rfl, rfl⟩ (by first | assumption | rfl) rfl rfl (Nat.le_of_ble_eq_true rfl) (by decide) pKK ?_
          refine M_X2_countOf ht (Or.inr rfl) hT1 hF1 hwc (fun I2 hb2 => ?_)
          refine pE_callV (d' := 1) (as := [_, _, _, _, _]) dX2_climbTillPaid_52 lkX2_122 (cwX2_walk _ _) ivX2_walk ⟨_, rfl, rfl⟩ (by first | assumption | rfl) rfl rfl (Nat.le_of_ble_eq_true rfl) (by decide) pKK ?_
          refine M_X2_walk ht (Or.inr rfl) ha (hT1.sb (Or.inr rfl) hb2) hlb.2.2.1 (clp_le _ _) (by omega) (by omega) (by rw [brN0]; omega) (fun I3 hx3 hT3 => ?_)
          refine pE_iincN (c0 := 1) (lc' := [_, _, _, _, some (.int _)]) dX2_climbTillPaid_55 rfl rfl rfl rfl ?_
          refine pE_goto (tgt := 3) dX2_climbTillPaid_58 (by decide) ?_
          refine ih (j + 1) _ I3 (by omega) (by omega) ((hx.sbx hb2).tr hx3) hT3 (rS_walk hrT1 ha) (by rw [walkN_at _ _ _ _ _ ha, brN0]; omega) (fun I4 a4 b4 => hq I4 a4 ?_)
          rw [clt_go (by omega) (by omega)]
          exact b4
        · have g31 := nq_nle (by omega) (by omega) h31
          refine pE_vret dX2_climbTillPaid_34 rfl rfl ?_
          exact hq _ hx (by rw [clt_stop _ (by omega)]; exact hT1)
set_option maxHeartbeats 4000000 in
set_option maxRecDepth 100000 in
theorem M_X2_climbTillPaid {l : Launch} {X : pX} {t g : Nat} {I : pHI} {J : pHJ} {Q : pQ} {a s B : Nat} {H T : pN} {pc : pP} (ht : isH t) (hH : cH t H I) (hr : rH H) (hFc : cF (t + 6) pc I) (hwc : wfp pc 0) (hT : cS 37 T I) (hrT : rS B H T) (ha : a < 8) (hs1 : 1 ≤ s) (hs : s ≤ 20) (hq : ∀ I2, sx 37 I I2 → cS 37 (cltN pc H a s 40 T) I2 → Q none I2 J (pR t g)) : pM l X yX2_climbTillPaid mX2_climbTillPaid 3 [.ref t, .ref 37, .int (nI a), .int (nI s)] pK pK I J (pR t g) Q := by
  refine pM_of rfl (fun h => by cases h) rfl pKM (Nat.le_of_ble_eq_true rfl) ?_
  refine pE_iconst (v := nI 0) dX2_climbTillPaid_0 rfl ?_
  refine pE_istore (lc' := [_, _, _, _, some (.int _)]) dX2_climbTillPaid_1 (Nat.le_of_ble_eq_true rfl) rfl rfl ?_
  exact L_X2_climbTillPaid ht hH hr hFc hwc ha hs1 hs 41 0 T I (by omega) (by omega) sx.rf hT hrT (hrT.2.2.2.2 a ha).1 hq
set_option maxHeartbeats 4000000 in
set_option maxRecDepth 100000 in
theorem L_X11_settle {l : Launch} {X : pX} {t g : Nat} {I : pHI} {J : pHJ} {Q : pQ} {a s : Nat} {H : pN} {pc pm : pP} (ht : isH t) (hH : cH t H I) (hr : rH H) (hFc : cF (t + 6) pc I) (hwc : wfp pc 0) (hFm : cF (t + 10) pm I) (hwm : wfp pm 0) (ha : a < H 1) (hs1 : 1 ≤ s) (hs : s ≤ H 0) : ∀ (n : Nat) (j : Nat) (T1 : pN) (I1 : pHI), 61 - j < n → (j ≤ 61) → (sx 37 I I1) → (cS 37 T1 I1) → (rS (999 + j) H T1) → (∀ I2, sx 37 I I2 → Q (some (.int (oI (setN pc pm H a s (61 - j) j T1)))) I2 J (pR t g)) → pE l X mX11_settle 5 pK 37 [some (.ref 0), some (.int (nI a)), some (.int (nI s)), some (.int (nI j))] [] pK I1 J (pR t g) Q := by
  obtain ⟨fHFht0, fHFht1, fHFht2, fHFht3, fHFht4, fHFht5, fHFht6, fHFht7, fHFht8, fHFht9, fHFht10, fHFht11, fHFht12, fHFht13, fHFht14, fHFht15, fHFht16, fHFht17, fHFht18, fHFht19, fHFht20, fHFht21, fHFht22, fHFht23, fHFht24, fHFht25, fHFht26⟩ := HF t g ht
  intro n
  induction n with
  | zero => intro j T1 I1 hn; exact absurd hn (Nat.not_lt_zero _)
  | succ n ih =>
    intro j T1 I1 hn hj hx hT1 hrT1 hq
    have hn8 := hr.2.1
    have hn20 := hr.1.2
    have ha8 : a < 8 := by omega
    have hrc := rS_clt (p := pc) (s := s) ha8 40 T1 hrT1
    have hlb := lack_leB hr hrc ha8
    refine pE_iload_n dX11_settle_37 rfl rfl ?_
    refine pE_bipush (v := nI 60) dX11_settle_38 rfl ?_
    refine pE_icmp_gt (tgt := 90) dX11_settle_40 (by decide) (fun h40 => ?_) (fun h40 => ?_)
    · have g40 := nq_lt (by omega) (by omega) h40
      refine pE_iconst (v := -1) dX11_settle_90 rfl ?_
      refine pE_iret dX11_settle_91 rfl rfl ?_
      have h9 := hq _ hx
      rw [show 61 - j = 0 by omega] at h9
      exact h9
    · have g40 := nq_nlt (by omega) (by omega) h40
      refine pE_aload_n dX11_settle_43 rfl rfl ?_
      refine pE_getR dX11_settle_44 flX11_29 rfl (by first | assumption | rfl) (by first | assumption | rfl) ?_
      refine pE_aload_n dX11_settle_47 rfl rfl ?_
      refine pE_getR dX11_settle_48 flX11_43 rfl (by first | assumption | rfl) (by first | assumption | rfl) ?_
      refine pE_iload_n dX11_settle_51 rfl rfl ?_
      refine pE_iload_n dX11_settle_52 rfl rfl ?_
      refine pE_callV (d' := 3) (as := [_, _, _]) dX11_settle_53 lkX11_235 (cwX2_climbTillPaid _ _) ivX2_climbTillPaid ⟨_, rfl, rfl⟩ (by first | assumption | rfl) rfl rfl (Nat.le_of_ble_eq_true rfl) (by decide) pKK ?_
      refine M_X2_climbTillPaid ht (hH.sx ht (Or.inr rfl) hx) hr (hFc.sx (isF_c ht) (Or.inr rfl) hx) hwc hT1 hrT1 ha8 hs1 (by omega) (fun I2 hx2 hT2 => ?_)
      refine pE_aload_n dX11_settle_56 rfl rfl ?_
      refine pE_getR dX11_settle_57 flX11_29 rfl (by first | assumption | rfl) (by first | assumption | rfl) ?_
      refine pE_aload_n dX11_settle_60 rfl rfl ?_
      refine pE_getR dX11_settle_61 flX11_43 rfl (by first | assumption | rfl) (by first | assumption | rfl) ?_
      refine pE_iload_n dX11_settle_64 rfl rfl ?_
      refine pE_callV (d' := 1) (as := [_, _]) dX11_settle_65 lkX11_148 (cwX2_lackOf _ _) ivX2_lackOf ⟨_, rfl, rfl⟩ (by first | assumption | rfl) rfl rfl (Nat.le_of_ble_eq_true rfl) (by decide) pKK ?_
      refine M_X2_lackOf (T := cltN pc H a s 40 T1) (H := H) ht (Or.inr rfl) ha8 ((hH.sx ht (Or.inr rfl) (hx.tr hx2)).2.2.2.2.2 a ha8).2.2.2.1 (hT2.2.2.2.2 a ha8).2.2 (hT2.2.2.2.2 a ha8).2.1 hlb.1 hlb.2.1 hlb.2.2.1 ?_
      refine pE_if_ne (tgt := 73) dX11_settle_68 (by decide) (fun h68 => ?_) (fun h68 => ?_)
      · have g68 := nq_ne0 (by omega) h68
        refine pE_aload_n dX11_settle_73 rfl rfl ?_
        refine pE_getR dX11_settle_74 flX11_29 rfl (by first | assumption | rfl) (by first | assumption | rfl) ?_
        refine pE_aload_n dX11_settle_77 rfl rfl ?_
        refine pE_getR dX11_settle_78 flX11_43 rfl (by first | assumption | rfl) (by first | assumption | rfl) ?_
        refine pE_callV (d' := 4) (as := [_]) dX11_settle_81 lkX11_189 (cwX2_passWeek _ _) ivX2_passWeek ⟨_, rfl, rfl⟩ (by first | assumption | rfl) rfl rfl (Nat.le_of_ble_eq_true rfl) (by decide) pKK ?_
        refine M_X2_passWeek ht (Or.inr rfl) hr hT2 (hH.sx ht (Or.inr rfl) (hx.tr hx2)) (hFm.sx (isF_m ht) (Or.inr rfl) (hx.tr hx2)) hwm hrc (fun I3 hx3 hT3 => ?_)
        refine pE_iincN (c0 := 1) (lc' := [_, _, _, some (.int _)]) dX11_settle_84 rfl rfl rfl rfl ?_
        refine pE_goto (tgt := 37) dX11_settle_87 (by decide) ?_
        refine ih (j + 1) _ I3 (by omega) (by omega) ((hx.tr hx2).tr hx3) hT3 (rS_week (B := 999 + j) hr hrc (by omega)) (fun I4 a4 => ?_)
        have h9 := hq I4 a4
        rw [set_no (by omega) (by omega)] at h9
        exact h9
      · have g68 := nq_eq0 (by omega) h68
        refine pE_iload_n dX11_settle_71 rfl rfl ?_
        refine pE_iret dX11_settle_72 rfl rfl ?_
        have h9 := hq _ (hx.tr hx2)
        rw [set_yes (by omega) g68] at h9
        exact h9
set_option maxHeartbeats 4000000 in
set_option maxRecDepth 100000 in
theorem M_X11_settle {l : Launch} {X : pX} {t g : Nat} {I : pHI} {J : pHJ} {Q : pQ} {x y : Int32} {H T : pN} {pc pm : pP} (ht : isH t) (hH : cH t H I) (hr : rH H) (hFc : cF (t + 6) pc I) (hwc : wfp pc 0) (hFm : cF (t + 10) pm I) (hwm : wfp pm 0) (hS : cS 33 T I) (hrT : rS 999 H T) (h1 : ∀ a, a < H 1 → x = nI a → ∀ s, y = nI s → 1 ≤ s → s ≤ H 0 → ∀ I1, sx 37 I I1 → Q (some (.int (oI (setN pc pm H a s 61 0 T)))) I1 J (pR t g)) (h0 : ((∀ a, a < H 1 → x ≠ nI a) ∨ (∀ s, 1 ≤ s → s ≤ H 0 → y ≠ nI s)) → Q (some (.int (-1))) I J (pR t g)) : pM l X yX11_settle mX11_settle 5 [.ref 0, .int x, .int y] pK pK I J (pR t g) Q := by
  obtain ⟨fHFht0, fHFht1, fHFht2, fHFht3, fHFht4, fHFht5, fHFht6, fHFht7, fHFht8, fHFht9, fHFht10, fHFht11, fHFht12, fHFht13, fHFht14, fHFht15, fHFht16, fHFht17, fHFht18, fHFht19, fHFht20, fHFht21, fHFht22, fHFht23, fHFht24, fHFht25, fHFht26⟩ := HF t g ht
  refine pM_of rfl (fun h => by cases h) rfl pKM (Nat.le_of_ble_eq_true rfl) ?_
  refine pE_aload_n dX11_settle_0 rfl rfl ?_
  refine pE_getR dX11_settle_1 flX11_29 rfl (by first | assumption | rfl) (by first | assumption | rfl) ?_
  refine pE_iload_n dX11_settle_4 rfl rfl ?_
  refine pE_callV (d' := 0) (as := [_]) dX11_settle_5 lkX11_119 (cwX2_hasTenant _ _) ivX2_hasTenant ⟨_, rfl, rfl⟩ (by first | assumption | rfl) rfl rfl (Nat.le_of_ble_eq_true rfl) (by decide) pKK ?_
  refine M_X2_hasTenant (H := H) ht hH.2.2.1 hr.2.1 (fun a ha e1 => ?_) (fun hno => ?_)
  · subst e1
    refine pE_if_eq_f (tgt := 22) dX11_settle_8 (by decide) nI_1n0 ?_
    refine pE_aload_n dX11_settle_11 rfl rfl ?_
    refine pE_getR dX11_settle_12 flX11_29 rfl (by first | assumption | rfl) (by first | assumption | rfl) ?_
    refine pE_iload_n dX11_settle_15 rfl rfl ?_
    refine pE_callV (d' := 0) (as := [_]) dX11_settle_16 lkX11_229 (cwX2_canBeClimbed _ _) ivX2_canBeClimbed ⟨_, rfl, rfl⟩ (by first | assumption | rfl) rfl rfl (Nat.le_of_ble_eq_true rfl) (by decide) pKK ?_
    refine M_X2_canBeClimbed (H := H) ht hH.1 hr.1.2 (fun s e2 hs1 hs => ?_) (fun hno => ?_)
    · subst e2
      refine pE_if_ne_t (tgt := 24) dX11_settle_19 (by decide) nI_1n0 ?_
      refine pE_aload_n dX11_settle_24 rfl rfl ?_
      refine pE_getR dX11_settle_25 flX11_43 rfl (by first | assumption | rfl) (by first | assumption | rfl) ?_
      refine pE_aload_n dX11_settle_28 rfl rfl ?_
      refine pE_getR dX11_settle_29 flX11_39 rfl (by first | assumption | rfl) (by first | assumption | rfl) ?_
      refine pE_callV (d' := 1) (as := [_]) dX11_settle_32 lkX11_232 (cwX9_copyFrom _ _) ivX9_copyFrom ⟨_, rfl, rfl⟩ (by first | assumption | rfl) rfl rfl (Nat.le_of_ble_eq_true rfl) (by decide) pKK ?_
      refine M_X9_copyFrom hS (fun I2 hx2 hT2 => ?_)
      refine pE_iconst (v := nI 0) dX11_settle_35 rfl ?_
      refine pE_istore_n (lc' := [_, _, _, some (.int _)]) dX11_settle_36 rfl (Nat.le_of_ble_eq_true rfl) rfl rfl ?_
      exact L_X11_settle ht (hH.sx ht (Or.inr rfl) hx2) hr (hFc.sx (isF_c ht) (Or.inr rfl) hx2) hwc (hFm.sx (isF_m ht) (Or.inr rfl) hx2) hwm ha hs1 hs 62 0 T I2 (by omega) (by omega) sx.rf hT2 hrT (fun I3 h => h1 a ha rfl s rfl hs1 hs I3 (hx2.tr h))
    · refine pE_if_ne_f (tgt := 24) dX11_settle_19 (by decide) nI_0 ?_
      refine pE_iconst (v := -1) dX11_settle_22 rfl ?_
      refine pE_iret dX11_settle_23 rfl rfl ?_
      first | exact h0 (Or.inl hno) | exact h0 (Or.inr hno)
  · refine pE_if_eq_t (tgt := 22) dX11_settle_8 (by decide) nI_0 ?_
    refine pE_iconst (v := -1) dX11_settle_22 rfl ?_
    refine pE_iret dX11_settle_23 rfl rfl ?_
    first | exact h0 (Or.inl hno) | exact h0 (Or.inr hno)
set_option maxHeartbeats 4000000 in
set_option maxRecDepth 100000 in
theorem L_X12_settleIn {l : Launch} {X : pX} {t g : Nat} {I : pHI} {J : pHJ} {Q : pQ} {a s w B : Nat} {H : pN} {p0 pc p1 pm : pP} (hH : mH H I) (hr : rH H) (hF0 : mF 0 p0 I) (hw0 : p0 = [] ∨ wfp p0 0) (hp0 : fR 0 p0 pc) (hF1 : mF 1 p1 I) (hw1 : p1 = [] ∨ wfp p1 0) (hp1 : fR 1 p1 pm) (ha : a < H 1) (hs1 : 1 ≤ s) (hs : s ≤ H 0) : ∀ (n : Nat) (k : Nat) (T1 : pN) (I1 : pHI), k < n → (T1 a ≤ k) → (sm I I1) → (mS 91 T1 I1) → (rS B H T1) → (∀ I2, sm I I2 → mS 91 (cltN pc H a s k T1) I2 → pE l X mX12_settle 5 pK 69 [some (.ref 67), some (.int (nI a)), some (.int (nI s)), some (.int (nI w))] [] pK I2 J (pR t g) Q) → pE l X mX12_settle 5 pK 34 [some (.ref 67), some (.int (nI a)), some (.int (nI s)), some (.int (nI w))] [] pK I1 J (pR t g) Q := by
  intro n
  induction n with
  | zero => intro k T1 I1 hn; exact absurd hn (Nat.not_lt_zero _)
  | succ n ih =>
    intro k T1 I1 hn hk hx hT1 hrT1 hq
    have hn8 := hr.2.1
    have hn20 := hr.1.2
    have hlb := lack_leB hr hrT1 (show a < 8 by omega)
    have hH1 := hH.sm hx
    have hb0 := brN0 s
    have hT40 := (hrT1.2.2.2.2 a (by omega)).1
    refine pE_aload_n dX12_settle_34 rfl rfl ?_
    refine pE_iload_n dX12_settle_35 rfl rfl ?_
    refine pE_callV (d' := 1) (as := [_]) dX12_settle_36 lkX12_397 (cwX12_lackOf _ _) ivX12_lackOf ⟨_, rfl, rfl⟩ (by first | assumption | rfl) rfl rfl (Nat.le_of_ble_eq_true rfl) (by decide) pKK ?_
    refine M_X12_lackOf (H := H) (T := T1) (hH1.2.2.2 a ha).2.2.2.1 (hT1 (16 + a) (by omega)) (hT1 (8 + a) (by omega)) (by omega) hlb.1 hlb.2.1 hlb.2.2.1 ?_
    refine pE_if_le (tgt := 69) dX12_settle_39 (by decide) (fun h39 => ?_) (fun h39 => ?_)
    · have g39 := nq_le0 (by omega) h39
      exact hq _ hx (by rw [clt_stop _ (by omega)]; exact hT1)
    · have g39 := nq_nle0 (by omega) h39
      refine pE_aload_n dX12_settle_42 rfl rfl ?_
      refine pE_getR dX12_settle_43 flX12_88 rfl (by first | assumption | rfl) (by first | assumption | rfl) ?_
      refine pE_iload_n dX12_settle_46 rfl rfl ?_
      refine pE_ialoadN dX12_settle_47 (by first | assumption | rfl) (by first | assumption | omega) (by omega) ?_
      rw [hT1 a (by omega)]
      refine pE_iload_n dX12_settle_48 rfl rfl ?_
      refine pE_icmp_lt (tgt := 69) dX12_settle_49 (by decide) (fun h49 => ?_) (fun h49 => ?_)
      · have g49 := nq_lt (by omega) (by omega) h49
        exact hq _ hx (by rw [clt_stop _ (by omega)]; exact hT1)
      · have g49 := nq_nlt (by omega) (by omega) h49
        refine pE_aload_n dX12_settle_52 rfl rfl ?_
        refine pE_iload_n dX12_settle_53 rfl rfl ?_
        refine pE_iload_n dX12_settle_54 rfl rfl ?_
        refine pE_iconst (v := -1) dX12_settle_55 rfl ?_
        refine pE_aload_n dX12_settle_56 rfl rfl ?_
        refine pE_iload_n dX12_settle_57 rfl rfl ?_
        refine pE_iconst (v := -1) dX12_settle_58 rfl ?_
        refine pE_iconst (v := nI 0) dX12_settle_59 rfl ?_
        refine pE_callV (d' := 3) (as := [_, _, _]) dX12_settle_60 lkX12_404 (cwX12_countOf _ _) ivX12_countOf ⟨_, rfl, rfl⟩ (by first | assumption | rfl) rfl rfl (Nat.le_of_ble_eq_true rfl) (by decide) pKK ?_
        refine M_X12_countOf_0 (hF0.sm hx) hw0 hT1 (fun I2 hb2 => ?_)
        rw [fr_cnt hp0]
        refine pE_callV (d' := 1) (as := [_, _, _, _]) dX12_settle_63 lkX12_410 (cwX12_goClimb _ _) ivX12_goClimb ⟨_, rfl, rfl⟩ (by first | assumption | rfl) rfl rfl (Nat.le_of_ble_eq_true rfl) (by decide) pKK ?_
        refine M_X12_goClimb_0 (hT1.sb (Or.inr rfl) hb2) (by omega) hlb.2.2.1 (clp_le _ _) (by omega) (by omega) (fun I3 hx3 hT3 => ?_)
        refine pE_goto (tgt := 34) dX12_settle_66 (by decide) ?_
        refine ih (k - 1) _ I3 (by omega) (by rw [walkN_at _ _ _ _ _ (by omega)]; omega) ((hx.tr hb2.sm).tr hx3) hT3 (rS_walk hrT1 (by omega)) (fun I4 a4 b4 => hq I4 a4 ?_)
        rw [clt_go (by omega) (by omega)]
        exact b4
set_option maxHeartbeats 4000000 in
set_option maxRecDepth 100000 in
theorem L_X12_settle {l : Launch} {X : pX} {t g : Nat} {I : pHI} {J : pHJ} {Q : pQ} {a s : Nat} {H : pN} {p0 pc p1 pm : pP} (hH : mH H I) (hr : rH H) (hF0 : mF 0 p0 I) (hw0 : p0 = [] ∨ wfp p0 0) (hp0 : fR 0 p0 pc) (hF1 : mF 1 p1 I) (hw1 : p1 = [] ∨ wfp p1 0) (hp1 : fR 1 p1 pm) (ha : a < H 1) (hs1 : 1 ≤ s) (hs : s ≤ H 0) : ∀ (n : Nat) (j : Nat) (T1 : pN) (I1 : pHI), 61 - j < n → (j ≤ 61) → (sm I I1) → (mS 91 T1 I1) → (rS (999 + j) H T1) → (∀ I2, sm I I2 → Q (some (.int (oI (setN pc pm H a s (61 - j) j T1)))) I2 J (pR t g)) → pE l X mX12_settle 5 pK 28 [some (.ref 67), some (.int (nI a)), some (.int (nI s)), some (.int (nI j))] [] pK I1 J (pR t g) Q := by
  intro n
  induction n with
  | zero => intro j T1 I1 hn; exact absurd hn (Nat.not_lt_zero _)
  | succ n ih =>
    intro j T1 I1 hn hj hx hT1 hrT1 hq
    have hn8 := hr.2.1
    have hn20 := hr.1.2
    have ha8 : a < 8 := by omega
    have hT40 := (hrT1.2.2.2.2 a ha8).1
    have hrc := rS_clt (p := pc) (s := s) ha8 40 T1 hrT1
    have hlb := lack_leB hr hrc ha8
    refine pE_iload_n dX12_settle_28 rfl rfl ?_
    refine pE_bipush (v := nI 60) dX12_settle_29 rfl ?_
    refine pE_icmp_gt (tgt := 89) dX12_settle_31 (by decide) (fun h31 => ?_) (fun h31 => ?_)
    · have g31 := nq_lt (by omega) (by omega) h31
      refine pE_iconst (v := -1) dX12_settle_89 rfl ?_
      refine pE_iret dX12_settle_90 rfl rfl ?_
      have h9 := hq _ hx
      rw [show 61 - j = 0 by omega] at h9
      exact h9
    · have g31 := nq_nlt (by omega) (by omega) h31
      refine L_X12_settleIn (B := 999 + j) (I := I1) (hH.sm hx) hr (hF0.sm hx) hw0 hp0 (hF1.sm hx) hw1 hp1 ha hs1 hs 41 40 T1 I1 (by omega) (by omega) sm.rf hT1 hrT1 (fun I2 hx2a hT2 => ?_)
      have hx2 := hx.tr hx2a
      refine pE_aload_n dX12_settle_69 rfl rfl ?_
      refine pE_iload_n dX12_settle_70 rfl rfl ?_
      refine pE_callV (d' := 1) (as := [_]) dX12_settle_71 lkX12_397 (cwX12_lackOf _ _) ivX12_lackOf ⟨_, rfl, rfl⟩ (by first | assumption | rfl) rfl rfl (Nat.le_of_ble_eq_true rfl) (by decide) pKK ?_
      refine M_X12_lackOf (H := H) (T := cltN pc H a s 40 T1) ((hH.sm hx2).2.2.2 a ha).2.2.2.1 (hT2 (16 + a) (by omega)) (hT2 (8 + a) (by omega)) (by omega) hlb.1 hlb.2.1 hlb.2.2.1 ?_
      refine pE_if_ne (tgt := 79) dX12_settle_74 (by decide) (fun h74 => ?_) (fun h74 => ?_)
      · have g74 := nq_ne0 (by omega) h74
        refine pE_aload_n dX12_settle_79 rfl rfl ?_
        refine pE_callV (d' := 4) (as := []) dX12_settle_80 lkX12_417 (cwX12_goWeek _ _) ivX12_goWeek ⟨_, rfl, rfl⟩ (by first | assumption | rfl) rfl rfl (Nat.le_of_ble_eq_true rfl) (by decide) pKK ?_
        refine M_X12_goWeek (hH.sm hx2) hr hT2 (hF1.sm hx2) hw1 hp1 hrc (fun I3 hx3 hT3 => ?_)
        refine pE_iincN (c0 := 1) (lc' := [_, _, _, some (.int _)]) dX12_settle_83 rfl rfl rfl rfl ?_
        refine pE_goto (tgt := 28) dX12_settle_86 (by decide) ?_
        refine ih (j + 1) _ I3 (by omega) (by omega) (hx2.tr hx3) hT3 (rS_week (B := 999 + j) hr hrc (by omega)) (fun I4 a4 => ?_)
        have h9 := hq I4 a4
        rw [set_no (by omega) (by omega)] at h9
        exact h9
      · have g74 := nq_eq0 (by omega) h74
        refine pE_iload_n dX12_settle_77 rfl rfl ?_
        refine pE_iret dX12_settle_78 rfl rfl ?_
        have h9 := hq _ hx2
        rw [set_yes (by omega) g74] at h9
        exact h9
set_option maxHeartbeats 4000000 in
set_option maxRecDepth 100000 in
theorem M_X12_settle {l : Launch} {X : pX} {t g : Nat} {I : pHI} {J : pHJ} {Q : pQ} {x y : Int32} {H T : pN} {p0 pc p1 pm : pP} (hH : mH H I) (hr : rH H) (hF0 : mF 0 p0 I) (hw0 : p0 = [] ∨ wfp p0 0) (hp0 : fR 0 p0 pc) (hF1 : mF 1 p1 I) (hw1 : p1 = [] ∨ wfp p1 0) (hp1 : fR 1 p1 pm) (hS : mS 90 T I) (hrT : rS 999 H T) (h1 : ∀ a, a < H 1 → x = nI a → ∀ s, y = nI s → 1 ≤ s → s ≤ H 0 → ∀ I1, sm I I1 → Q (some (.int (oI (setN pc pm H a s 61 0 T)))) I1 J (pR t g)) (h0 : ((∀ a, a < H 1 → x ≠ nI a) ∨ (∀ s, 1 ≤ s → s ≤ H 0 → y ≠ nI s)) → Q (some (.int (-1))) I J (pR t g)) : pM l X yX12_settle mX12_settle 5 [.ref 67, .int x, .int y] pK pK I J (pR t g) Q := by
  have hn20 := hr.1.2
  refine pM_of rfl (fun h => by cases h) rfl pKM (Nat.le_of_ble_eq_true rfl) ?_
  refine pE_aload_n dX12_settle_0 rfl rfl ?_
  refine pE_iload_n dX12_settle_1 rfl rfl ?_
  refine pE_callV (d' := 1) (as := [_]) dX12_settle_2 lkX12_382 (cwX12_isTenant _ _) ivX12_isTenant ⟨_, rfl, rfl⟩ (by first | assumption | rfl) rfl rfl (Nat.le_of_ble_eq_true rfl) (by decide) pKK ?_
  refine M_X12_isTenant (H := H) hH.2.1 hr.2.1 (fun a ha e1 => ?_) (fun hnt => ?_)
  · subst e1
    refine pE_if_eq_f (tgt := 20) dX12_settle_5 (by decide) nI_1n0 ?_
    refine pE_iload_n dX12_settle_8 rfl rfl ?_
    refine pE_iconst (v := nI 1) dX12_settle_9 rfl ?_
    refine pE_aload_n dX12_settle_10 rfl rfl ?_
    refine pE_getI dX12_settle_11 flX12_82 rfl (Or.inl rfl) (by first | assumption | rfl) ?_
    rw [hH.1]
    refine pE_callS (d' := 0) (as := [_, _, _]) dX12_settle_14 lkX12_368 (cwX12_isIn _ _) svX12_isIn rfl rfl (Nat.le_of_ble_eq_true rfl) (by decide) pKK ?_
    refine M_X12_isIn  (fun k1 k2 => ?_) (fun k => ?_)
    · obtain ⟨s, rfl, hs1, hs⟩ := in_rng (by omega) (by omega) k1 k2
      refine pE_if_ne_t (tgt := 22) dX12_settle_17 (by decide) nI_1n0 ?_
      refine pE_aload_n dX12_settle_22 rfl rfl ?_
      refine pE_callV (d' := 0) (as := []) dX12_settle_23 lkX12_394 (cwX12_load _ _) ivX12_load ⟨_, rfl, rfl⟩ (by first | assumption | rfl) rfl rfl (Nat.le_of_ble_eq_true rfl) (by decide) pKK ?_
      refine M_X12_load ?_
      refine pE_iconst (v := nI 0) dX12_settle_26 rfl ?_
      refine pE_istore_n (lc' := [_, _, _, some (.int _)]) dX12_settle_27 rfl (Nat.le_of_ble_eq_true rfl) rfl rfl ?_
      exact L_X12_settle (hH.sm sm.load) hr (hF0.sm sm.load) hw0 hp0 (hF1.sm sm.load) hw1 hp1 ha hs1 hs 62 0 T _ (by omega) (by omega) sm.rf hS.load hrT (fun I3 h => h1 a ha rfl s rfl hs1 hs I3 (sm.load.tr h))
    · have hno := out_rng (by omega) (by omega) k
      refine pE_if_ne_f (tgt := 22) dX12_settle_17 (by decide) nI_0 ?_
      refine pE_iconst (v := -1) dX12_settle_20 rfl ?_
      refine pE_iret dX12_settle_21 rfl rfl ?_
      first | exact h0 (Or.inl hnt) | exact h0 (Or.inr hno)
  · refine pE_if_eq_t (tgt := 20) dX12_settle_5 (by decide) nI_0 ?_
    refine pE_iconst (v := -1) dX12_settle_20 rfl ?_
    refine pE_iret dX12_settle_21 rfl rfl ?_
    first | exact h0 (Or.inl hnt) | exact h0 (Or.inr hno)
