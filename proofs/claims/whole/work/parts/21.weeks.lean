set_option maxHeartbeats 4000000 in
set_option maxRecDepth 100000 in
theorem M_X9_copyFrom {l : Launch} {X : pX} {t g : Nat} {I : pHI} {J : pHJ} {Q : pQ} {T : pN} (hS : cS 33 T I) (hq : ∀ I1, sx 37 I I1 → cS 37 T I1 → Q none I1 J (pR t g)) : pM l X yX9_copyFrom mX9_copyFrom 1 [.ref 37, .ref 33] pK pK I J (pR t g) Q := by
  refine pM_of rfl (fun h => by cases h) rfl pKM (Nat.le_of_ble_eq_true rfl) ?_
  refine pE_aload_n dX9_copyFrom_0 rfl rfl ?_
  refine pE_getR dX9_copyFrom_1 flX9_9 rfl (by first | assumption | rfl) (by first | assumption | rfl) ?_
  refine pE_iconst (v := nI 0) dX9_copyFrom_4 rfl ?_
  refine pE_aload_n dX9_copyFrom_5 rfl rfl ?_
  refine pE_getR dX9_copyFrom_6 flX9_9 rfl (by first | assumption | rfl) (by first | assumption | rfl) ?_
  refine pE_iconst (v := nI 0) dX9_copyFrom_9 rfl ?_
  refine pE_bipush (v := nI 8) dX9_copyFrom_10 rfl ?_
  refine pE_acopy dX9_copyFrom_12 lkX9_34 (by first | assumption | rfl) (by first | assumption | rfl) (by decide +kernel) (by decide +kernel) (by decide +kernel) (by decide +kernel) (by decide +kernel) (by decide) (Nat.le_of_ble_eq_true rfl) ?_
  refine pE_aload_n dX9_copyFrom_15 rfl rfl ?_
  refine pE_getR dX9_copyFrom_16 flX9_15 rfl (by first | assumption | rfl) (by first | assumption | rfl) ?_
  refine pE_iconst (v := nI 0) dX9_copyFrom_19 rfl ?_
  refine pE_aload_n dX9_copyFrom_20 rfl rfl ?_
  refine pE_getR dX9_copyFrom_21 flX9_15 rfl (by first | assumption | rfl) (by first | assumption | rfl) ?_
  refine pE_iconst (v := nI 0) dX9_copyFrom_24 rfl ?_
  refine pE_bipush (v := nI 8) dX9_copyFrom_25 rfl ?_
  refine pE_acopy dX9_copyFrom_27 lkX9_34 (by first | assumption | rfl) (by first | assumption | rfl) (by decide +kernel) (by decide +kernel) (by decide +kernel) (by decide +kernel) (by decide +kernel) (by decide) (Nat.le_of_ble_eq_true rfl) ?_
  refine pE_aload_n dX9_copyFrom_30 rfl rfl ?_
  refine pE_getR dX9_copyFrom_31 flX9_18 rfl (by first | assumption | rfl) (by first | assumption | rfl) ?_
  refine pE_iconst (v := nI 0) dX9_copyFrom_34 rfl ?_
  refine pE_aload_n dX9_copyFrom_35 rfl rfl ?_
  refine pE_getR dX9_copyFrom_36 flX9_18 rfl (by first | assumption | rfl) (by first | assumption | rfl) ?_
  refine pE_iconst (v := nI 0) dX9_copyFrom_39 rfl ?_
  refine pE_bipush (v := nI 8) dX9_copyFrom_40 rfl ?_
  refine pE_acopy dX9_copyFrom_42 lkX9_34 (by first | assumption | rfl) (by first | assumption | rfl) (by decide +kernel) (by decide +kernel) (by decide +kernel) (by decide +kernel) (by decide +kernel) (by decide) (Nat.le_of_ble_eq_true rfl) ?_
  refine pE_aload_n dX9_copyFrom_45 rfl rfl ?_
  refine pE_aload_n dX9_copyFrom_46 rfl rfl ?_
  refine pE_getI dX9_copyFrom_47 flX9_21 rfl (Or.inl rfl) (by first | assumption | rfl) ?_
  refine pE_putI dX9_copyFrom_50 flX9_21 ftX9 fiX9_3 rfl rfl (by first | assumption | rfl) ?_
  refine pE_aload_n dX9_copyFrom_53 rfl rfl ?_
  refine pE_aload_n dX9_copyFrom_54 rfl rfl ?_
  refine pE_getI dX9_copyFrom_55 flX9_25 rfl (Or.inl rfl) (by first | assumption | rfl) ?_
  refine pE_putI dX9_copyFrom_58 flX9_25 ftX9 fiX9_4 rfl rfl (by first | assumption | rfl) ?_
  refine pE_aload_n dX9_copyFrom_61 rfl rfl ?_
  refine pE_aload_n dX9_copyFrom_62 rfl rfl ?_
  refine pE_getI dX9_copyFrom_63 flX9_28 rfl (Or.inl rfl) (by first | assumption | rfl) ?_
  refine pE_putI dX9_copyFrom_66 flX9_28 ftX9 fiX9_5 rfl rfl (by first | assumption | rfl) ?_
  refine pE_aload_n dX9_copyFrom_69 rfl rfl ?_
  refine pE_aload_n dX9_copyFrom_70 rfl rfl ?_
  refine pE_getI dX9_copyFrom_71 flX9_31 rfl (Or.inl rfl) (by first | assumption | rfl) ?_
  refine pE_putI dX9_copyFrom_74 flX9_31 ftX9 fiX9_6 rfl rfl (by first | assumption | rfl) ?_
  refine pE_vret dX9_copyFrom_77 rfl rfl ?_
  have c8 : ∀ (f h : Nat → Int32) (j : Nat), j < 8 → va_cpy f h (nI 0).toNatClampNeg (nI 0).toNatClampNeg (nI 8).toNatClampNeg j = f j := by
    intro f h j hj
    rw [nI_clamp (by omega), nI_clamp (by omega)]
    unfold va_cpy
    rw [if_pos (by omega)]
    congr 1
    omega
  refine hq _ (fun c k a b => ?_) ⟨?_, ?_, ?_, ?_, fun j hj => ⟨?_, ?_, ?_⟩⟩
  · have n37 : c ≠ 37 := by omega
    have n38 : c ≠ 38 := by omega
    have n39 : c ≠ 39 := by omega
    have n40 : c ≠ 40 := by omega
    rw [pu_ne _ _ _ n37, pu_ne _ _ _ n37, pu_ne _ _ _ n37, pu_ne _ _ _ n37, pz_ne _ _ n40, pz_ne _ _ n39, pz_ne _ _ n38]
  · simp [pu_at, pz_ne]; exact hS.1
  · simp [pu_at, pz_ne]; exact hS.2.1
  · simp [pu_at, pz_ne]; exact hS.2.2.1
  · simp [pu_at, pz_ne]; exact hS.2.2.2.1
  · simp only [pu_at, pz_ne, pz_eq, ne_eq, Nat.reduceAdd, Nat.reduceEqDiff, not_false_eq_true, false_and, if_false]
    rw [c8 _ _ j hj]
    exact (hS.2.2.2.2 j hj).1
  · simp only [pu_at, pz_ne, pz_eq, ne_eq, Nat.reduceAdd, Nat.reduceEqDiff, not_false_eq_true, false_and, if_false]
    rw [c8 _ _ j hj]
    exact (hS.2.2.2.2 j hj).2.1
  · simp only [pu_at, pz_ne, pz_eq, ne_eq, Nat.reduceAdd, Nat.reduceEqDiff, not_false_eq_true, false_and, if_false]
    rw [c8 _ _ j hj]
    exact (hS.2.2.2.2 j hj).2.2
set_option maxHeartbeats 4000000 in
set_option maxRecDepth 100000 in
theorem L_X11_lookAhead {l : Launch} {X : pX} {t g : Nat} {I : pHI} {J : pHJ} {Q : pQ} {m : Nat} {H T : pN} {p : pP} (ht : isH t) (hH : cH t H I) (hr : rH H) (hS : cS 33 T I) (hrT : rS 999 H T) (hF : cF (t + 10) p I) (hw : wfp p 0) (hm : m ≤ 60) (hq : ∀ I1, sx 37 I I1 → cS 37 (wksN p H T m) I1 → Q (some (.int (nI 1))) I1 J (pR t g)) : ∀ (n j : Nat) (I1 : pHI), m - j < n → j ≤ m → sx 37 I I1 → cS 37 (wksN p H T j) I1 → pE l X mX11_lookAhead 5 pK 25 [some (.ref 0), some (.int (nI m)), some (.int (nI j))] [] pK I1 J (pR t g) Q := by
  obtain ⟨fHFht0, fHFht1, fHFht2, fHFht3, fHFht4, fHFht5, fHFht6, fHFht7, fHFht8, fHFht9, fHFht10, fHFht11, fHFht12, fHFht13, fHFht14, fHFht15, fHFht16, fHFht17, fHFht18, fHFht19, fHFht20, fHFht21, fHFht22, fHFht23, fHFht24, fHFht25, fHFht26⟩ := HF t g ht
  intro n
  induction n with
  | zero => intro j I1 hn hj; exact absurd hn (Nat.not_lt_zero _)
  | succ n ih =>
    intro j I1 hn hj hx hT1
    refine pE_iload_n dX11_lookAhead_25 rfl rfl ?_
    refine pE_iload_n dX11_lookAhead_26 rfl rfl ?_
    refine pE_icmp_ge (tgt := 47) dX11_lookAhead_27 (by decide) (fun h27 => ?_) (fun h27 => ?_)
    · have g27 := nq_le (by omega) (by omega) h27
      refine pE_iconst (v := nI 1) dX11_lookAhead_47 rfl ?_
      refine pE_zret dX11_lookAhead_48 rfl (by first | exact Or.inl nI_0 | exact Or.inr nI_1' | assumption) rfl ?_
      obtain rfl : j = m := by omega
      exact hq _ hx hT1
    · have g27 := nq_nle (by omega) (by omega) h27
      refine pE_aload_n dX11_lookAhead_30 rfl rfl ?_
      refine pE_getR dX11_lookAhead_31 flX11_29 rfl (by first | assumption | rfl) (by first | assumption | rfl) ?_
      refine pE_aload_n dX11_lookAhead_34 rfl rfl ?_
      refine pE_getR dX11_lookAhead_35 flX11_43 rfl (by first | assumption | rfl) (by first | assumption | rfl) ?_
      refine pE_callV (d' := 4) (as := [_]) dX11_lookAhead_38 lkX11_189 (cwX2_passWeek _ _) ivX2_passWeek ⟨_, rfl, rfl⟩ (by first | assumption | rfl) rfl rfl (Nat.le_of_ble_eq_true rfl) (by decide) pKK ?_
      refine M_X2_passWeek ht (Or.inr rfl) hr hT1 (hH.sx ht (Or.inr rfl) hx) (hF.sx (isF_m ht) (Or.inr rfl) hx) hw (rS_wks hr hrT j (by omega)) (fun I2 hx2 hT2 => ?_)
      refine pE_iincN (c0 := 1) (lc' := [_, _, some (.int _)]) dX11_lookAhead_41 rfl rfl rfl rfl ?_
      refine pE_goto (tgt := 25) dX11_lookAhead_44 (by decide) ?_
      exact ih (j + 1) I2 (by omega) (by omega) (hx.tr hx2) hT2
set_option maxHeartbeats 4000000 in
set_option maxRecDepth 100000 in
theorem M_X11_lookAhead {l : Launch} {X : pX} {t g : Nat} {I : pHI} {J : pHJ} {Q : pQ} {x : Int32} {H T : pN} {p : pP} (ht : isH t) (hH : cH t H I) (hr : rH H) (hS : cS 33 T I) (hrT : rS 999 H T) (hF : cF (t + 10) p I) (hw : wfp p 0) (h1 : ∀ m, x = nI m → m ≤ 60 → ∀ I1, sx 37 I I1 → cS 37 (wksN p H T m) I1 → Q (some (.int (nI 1))) I1 J (pR t g)) (h0 : (∀ m, m ≤ 60 → x ≠ nI m) → Q (some (.int (nI 0))) I J (pR t g)) : pM l X yX11_lookAhead mX11_lookAhead 5 [.ref 0, .int x] pK pK I J (pR t g) Q := by
  obtain ⟨fHFht0, fHFht1, fHFht2, fHFht3, fHFht4, fHFht5, fHFht6, fHFht7, fHFht8, fHFht9, fHFht10, fHFht11, fHFht12, fHFht13, fHFht14, fHFht15, fHFht16, fHFht17, fHFht18, fHFht19, fHFht20, fHFht21, fHFht22, fHFht23, fHFht24, fHFht25, fHFht26⟩ := HF t g ht
  refine pM_of rfl (fun h => by cases h) rfl pKM (Nat.le_of_ble_eq_true rfl) ?_
  rcases nI_or x with hx | ⟨m, hm, rfl⟩
  · refine pE_iload_n dX11_lookAhead_0 rfl rfl ?_
    refine pE_if_lt (tgt := 10) dX11_lookAhead_1 (by decide) (fun h1' => ?_) (fun h1' => ?_)
    · refine pE_iconst (v := nI 0) dX11_lookAhead_10 rfl ?_
      refine pE_zret dX11_lookAhead_11 rfl (by first | exact Or.inl nI_0 | exact Or.inr nI_1' | assumption) rfl ?_
      exact h0 (fun m hm e => by rw [e] at hx; exact absurd hx (nI_pos (by omega)))
    · exact absurd hx h1'
  · refine pE_iload_n dX11_lookAhead_0 rfl rfl ?_
    refine pE_if_lt (tgt := 10) dX11_lookAhead_1 (by decide) (fun h1' => ?_) (fun h1' => ?_)
    · exact absurd h1' (nI_pos (by omega))
    · refine pE_iload_n dX11_lookAhead_4 rfl rfl ?_
      refine pE_bipush (v := nI 60) dX11_lookAhead_5 rfl ?_
      refine pE_icmp_le (tgt := 12) dX11_lookAhead_7 (by decide) (fun h7 => ?_) (fun h7 => ?_)
      · have g7 := nq_le (by omega) (by omega) h7
        refine pE_aload_n dX11_lookAhead_12 rfl rfl ?_
        refine pE_getR dX11_lookAhead_13 flX11_43 rfl (by first | assumption | rfl) (by first | assumption | rfl) ?_
        refine pE_aload_n dX11_lookAhead_16 rfl rfl ?_
        refine pE_getR dX11_lookAhead_17 flX11_39 rfl (by first | assumption | rfl) (by first | assumption | rfl) ?_
        refine pE_callV (d' := 1) (as := [_]) dX11_lookAhead_20 lkX11_232 (cwX9_copyFrom _ _) ivX9_copyFrom ⟨_, rfl, rfl⟩ (by first | assumption | rfl) rfl rfl (Nat.le_of_ble_eq_true rfl) (by decide) pKK ?_
        refine M_X9_copyFrom hS (fun I1 hx hT1 => ?_)
        refine pE_iconst (v := nI 0) dX11_lookAhead_23 rfl ?_
        refine pE_istore_n (lc' := [_, _, some (.int _)]) dX11_lookAhead_24 rfl (Nat.le_of_ble_eq_true rfl) rfl rfl ?_
        exact L_X11_lookAhead ht hH hr hS hrT hF hw (by omega) (fun I2 a b => h1 m rfl (by omega) I2 a b) (m + 1) 0 I1 (by omega) (by omega) hx hT1
      · have g7 := nq_nle (by omega) (by omega) h7
        refine pE_iconst (v := nI 0) dX11_lookAhead_10 rfl ?_
        refine pE_zret dX11_lookAhead_11 rfl (by first | exact Or.inl nI_0 | exact Or.inr nI_1' | assumption) rfl ?_
        exact h0 (fun i hi e => by have := nq_eq hm (by omega) e; omega)
set_option maxHeartbeats 4000000 in
set_option maxRecDepth 100000 in
theorem M_X11_will {l : Launch} {X : pX} {t g : Nat} {I : pHI} {J : pHJ} {Q : pQ} {x : Int32} {H T : pN} {p : pP} (ht : isH t) (hH : cH t H I) (hr : rH H) (hS : cS 33 T I) (hrT : rS 999 H T) (hF : cF (t + 10) p I) (hw : wfp p 0) (h1 : ∀ m, x = nI m → m ≤ 60 → ∀ I1, sx 37 I I1 → Q (some (.int (nI (wksN p H T m 25)))) I1 J (pR t g)) (h0 : (∀ m, m ≤ 60 → x ≠ nI m) → Q (some (.int (-1))) I J (pR t g)) : pM l X yX11_will mX11_will 6 [.ref 0, .int x] pK pK I J (pR t g) Q := by
  refine pM_of rfl (fun h => by cases h) rfl pKM (Nat.le_of_ble_eq_true rfl) ?_
  refine pE_aload_n dX11_will_0 rfl rfl ?_
  refine pE_iload_n dX11_will_1 rfl rfl ?_
  refine pE_callV (d' := 5) (as := [_]) dX11_will_2 lkX11_305 (cwX11_lookAhead _ _) ivX11_lookAhead ⟨_, rfl, rfl⟩ (by first | assumption | rfl) rfl rfl (Nat.le_of_ble_eq_true rfl) (by decide) pKK ?_
  refine M_X11_lookAhead ht hH hr hS hrT hF hw (fun m e hm I1 hx hT => ?_) (fun hno => ?_)
  · refine pE_if_ne_t (tgt := 10) dX11_will_5 (by decide) nI_1n0 ?_
    refine pE_aload_n dX11_will_10 rfl rfl ?_
    refine pE_getR dX11_will_11 flX11_43 rfl (by first | assumption | rfl) (by first | assumption | rfl) ?_
    refine pE_getI dX11_will_14 flX11_192 rfl (Or.inl rfl) (by first | assumption | rfl) ?_
    refine pE_iret dX11_will_17 rfl rfl ?_
    exact cgQ hT.2.1 (h1 m e hm I1 hx)
  · refine pE_if_ne_f (tgt := 10) dX11_will_5 (by decide) nI_0 ?_
    refine pE_iconst (v := -1) dX11_will_8 rfl ?_
    refine pE_iret dX11_will_9 rfl rfl ?_
    exact h0 hno
set_option maxHeartbeats 4000000 in
set_option maxRecDepth 100000 in
theorem L_X11_rest {l : Launch} {X : pX} {t g : Nat} {I : pHI} {J : pHJ} {Q : pQ} {H T : pN} {p : pP} (ht : isH t) (hH : cH t H I) (hr : rH H) (hS : cS 33 T I) (hrT : rS 999 H T) (hF : cF (t + 10) p I) (hw : wfp p 0) (hq : ∀ I1, sx 37 I I1 → ∀ m, m ≤ 60 → (∀ i, i < m → wksN p H T (i + 1) 25 ≠ wksN p H T i 25) → wksN p H T (m + 1) 25 = wksN p H T m 25 → Q (some (.int (nI m))) I1 J (pR t g)) (h0 : ∀ I1, sx 37 I I1 → (∀ i, i ≤ 60 → wksN p H T (i + 1) 25 ≠ wksN p H T i 25) → Q (some (.int (-1))) I1 J (pR t g)) : ∀ (n j : Nat) (I1 : pHI) (v2 : Option Value), 61 - j < n → j ≤ 61 → sx 37 I I1 → cS 37 (wksN p H T j) I1 → (∀ i, i < j → wksN p H T (i + 1) 25 ≠ wksN p H T i 25) → pE l X mX11_rest 5 pK 13 [some (.ref 0), some (.int (nI j)), v2] [] pK I1 J (pR t g) Q := by
  obtain ⟨fHFht0, fHFht1, fHFht2, fHFht3, fHFht4, fHFht5, fHFht6, fHFht7, fHFht8, fHFht9, fHFht10, fHFht11, fHFht12, fHFht13, fHFht14, fHFht15, fHFht16, fHFht17, fHFht18, fHFht19, fHFht20, fHFht21, fHFht22, fHFht23, fHFht24, fHFht25, fHFht26⟩ := HF t g ht
  intro n
  induction n with
  | zero => intro j I1 v2 hn hj; exact absurd hn (Nat.not_lt_zero _)
  | succ n ih =>
    intro j I1 v2 hn hj hx hT1 hne
    have hb1 := (rS_wks (p := p) hr hrT j (by omega)).1
    have hb2 : weekN p H (wksN p H T j) 25 ≤ H 0 := (rS_wks (p := p) hr hrT (j + 1) (by omega)).1
    have hn20 := hr.1.2
    refine pE_iload_n dX11_rest_13 rfl rfl ?_
    refine pE_bipush (v := nI 60) dX11_rest_14 rfl ?_
    refine pE_icmp_gt (tgt := 57) dX11_rest_16 (by decide) (fun h16 => ?_) (fun h16 => ?_)
    · have g16 := nq_lt (by omega) (by omega) h16
      refine pE_iconst (v := -1) dX11_rest_57 rfl ?_
      refine pE_iret dX11_rest_58 rfl rfl ?_
      exact h0 I1 hx (fun i hi => hne i (by omega))
    · have g16 := nq_nlt (by omega) (by omega) h16
      refine pE_aload_n dX11_rest_19 rfl rfl ?_
      refine pE_getR dX11_rest_20 flX11_43 rfl (by first | assumption | rfl) (by first | assumption | rfl) ?_
      refine pE_getI dX11_rest_23 flX11_192 rfl (Or.inl rfl) (by first | assumption | rfl) ?_
      rw [hT1.2.1]
      refine pE_istore_n (lc' := [_, _, some (.int _)]) dX11_rest_26 rfl (Nat.le_of_ble_eq_true rfl) rfl rfl ?_
      refine pE_aload_n dX11_rest_27 rfl rfl ?_
      refine pE_getR dX11_rest_28 flX11_29 rfl (by first | assumption | rfl) (by first | assumption | rfl) ?_
      refine pE_aload_n dX11_rest_31 rfl rfl ?_
      refine pE_getR dX11_rest_32 flX11_43 rfl (by first | assumption | rfl) (by first | assumption | rfl) ?_
      refine pE_callV (d' := 4) (as := [_]) dX11_rest_35 lkX11_189 (cwX2_passWeek _ _) ivX2_passWeek ⟨_, rfl, rfl⟩ (by first | assumption | rfl) rfl rfl (Nat.le_of_ble_eq_true rfl) (by decide) pKK ?_
      refine M_X2_passWeek ht (Or.inr rfl) hr hT1 (hH.sx ht (Or.inr rfl) hx) (hF.sx (isF_m ht) (Or.inr rfl) hx) hw (rS_wks hr hrT j (by omega)) (fun I2 hx2 hT2 => ?_)
      refine pE_aload_n dX11_rest_38 rfl rfl ?_
      refine pE_getR dX11_rest_39 flX11_43 rfl (by first | assumption | rfl) (by first | assumption | rfl) ?_
      refine pE_getI dX11_rest_42 flX11_192 rfl (Or.inl rfl) (by first | assumption | rfl) ?_
      rw [hT2.2.1]
      refine pE_iload_n dX11_rest_45 rfl rfl ?_
      refine pE_icmp_ne (tgt := 51) dX11_rest_46 (by decide) (fun h46 => ?_) (fun h46 => ?_)
      · have g46 := nq_ne (by omega) (by omega) h46
        refine pE_iincN (c0 := 1) (lc' := [_, some (.int _), _]) dX11_rest_51 rfl rfl rfl rfl ?_
        refine pE_goto (tgt := 13) dX11_rest_54 (by decide) ?_
        exact ih (j + 1) I2 _ (by omega) (by omega) (hx.tr hx2) hT2 (fun i hi => (Nat.lt_or_ge i j).elim (fun h => hne i h) (fun h => by rw [show i = j by omega]; exact g46))
      · have g46 := nq_eq (by omega) (by omega) h46
        refine pE_iload_n dX11_rest_49 rfl rfl ?_
        refine pE_iret dX11_rest_50 rfl rfl ?_
        exact hq I2 (hx.tr hx2) j (by omega) hne g46
set_option maxHeartbeats 4000000 in
set_option maxRecDepth 100000 in
theorem M_X11_rest {l : Launch} {X : pX} {t g : Nat} {I : pHI} {J : pHJ} {Q : pQ} {H T : pN} {p : pP} (ht : isH t) (hH : cH t H I) (hr : rH H) (hS : cS 33 T I) (hrT : rS 999 H T) (hF : cF (t + 10) p I) (hw : wfp p 0) (hq : ∀ I1, sx 37 I I1 → ∀ m, m ≤ 60 → (∀ i, i < m → wksN p H T (i + 1) 25 ≠ wksN p H T i 25) → wksN p H T (m + 1) 25 = wksN p H T m 25 → Q (some (.int (nI m))) I1 J (pR t g)) (h0 : ∀ I1, sx 37 I I1 → (∀ i, i ≤ 60 → wksN p H T (i + 1) 25 ≠ wksN p H T i 25) → Q (some (.int (-1))) I1 J (pR t g)) : pM l X yX11_rest mX11_rest 5 [.ref 0] pK pK I J (pR t g) Q := by
  obtain ⟨fHFht0, fHFht1, fHFht2, fHFht3, fHFht4, fHFht5, fHFht6, fHFht7, fHFht8, fHFht9, fHFht10, fHFht11, fHFht12, fHFht13, fHFht14, fHFht15, fHFht16, fHFht17, fHFht18, fHFht19, fHFht20, fHFht21, fHFht22, fHFht23, fHFht24, fHFht25, fHFht26⟩ := HF t g ht
  refine pM_of rfl (fun h => by cases h) rfl pKM (Nat.le_of_ble_eq_true rfl) ?_
  refine pE_aload_n dX11_rest_0 rfl rfl ?_
  refine pE_getR dX11_rest_1 flX11_43 rfl (by first | assumption | rfl) (by first | assumption | rfl) ?_
  refine pE_aload_n dX11_rest_4 rfl rfl ?_
  refine pE_getR dX11_rest_5 flX11_39 rfl (by first | assumption | rfl) (by first | assumption | rfl) ?_
  refine pE_callV (d' := 1) (as := [_]) dX11_rest_8 lkX11_232 (cwX9_copyFrom _ _) ivX9_copyFrom ⟨_, rfl, rfl⟩ (by first | assumption | rfl) rfl rfl (Nat.le_of_ble_eq_true rfl) (by decide) pKK ?_
  refine M_X9_copyFrom hS (fun I1 hx hT1 => ?_)
  refine pE_iconst (v := nI 0) dX11_rest_11 rfl ?_
  refine pE_istore_n (lc' := [_, some (.int _), _]) dX11_rest_12 rfl (Nat.le_of_ble_eq_true rfl) rfl rfl ?_
  exact L_X11_rest ht hH hr hS hrT hF hw hq h0 62 0 I1 _ (by omega) (by omega) hx hT1 (fun i hi => absurd hi (Nat.not_lt_zero _))
set_option maxHeartbeats 4000000 in
set_option maxRecDepth 100000 in
theorem M_X11_pull {l : Launch} {X : pX} {t g : Nat} {I : pHI} {J : pHJ} {Q : pQ} {H T : pN} {p : pP} (ht : isH t) (hH : cH t H I) (hr : rH H) (hS : cS 33 T I) (hrT : rS 999 H T) (hF : cF (t + 10) p I) (hw : wfp p 0) (hq : ∀ I1, sb I I1 → Q (some (.int (pullV p H T (T 24)))) I1 J (pR t g)) : pM l X yX11_pull mX11_pull 3 [.ref 0] pK pK I J (pR t g) Q := by
  obtain ⟨fHFht0, fHFht1, fHFht2, fHFht3, fHFht4, fHFht5, fHFht6, fHFht7, fHFht8, fHFht9, fHFht10, fHFht11, fHFht12, fHFht13, fHFht14, fHFht15, fHFht16, fHFht17, fHFht18, fHFht19, fHFht20, fHFht21, fHFht22, fHFht23, fHFht24, fHFht25, fHFht26⟩ := HF t g ht
  refine pM_of rfl (fun h => by cases h) rfl pKM (Nat.le_of_ble_eq_true rfl) ?_
  refine pE_aload_n dX11_pull_0 rfl rfl ?_
  refine pE_getR dX11_pull_1 flX11_29 rfl (by first | assumption | rfl) (by first | assumption | rfl) ?_
  refine pE_aload_n dX11_pull_4 rfl rfl ?_
  refine pE_getR dX11_pull_5 flX11_39 rfl (by first | assumption | rfl) (by first | assumption | rfl) ?_
  refine pE_aload_n dX11_pull_8 rfl rfl ?_
  refine pE_getR dX11_pull_9 flX11_39 rfl (by first | assumption | rfl) (by first | assumption | rfl) ?_
  refine pE_getI dX11_pull_12 flX11_160 rfl (Or.inl rfl) (by first | assumption | rfl) ?_
  rw [hS.1]
  refine pE_callV (d' := 2) (as := [_, _]) dX11_pull_15 lkX11_308 (cwX2_pullOf _ _) ivX2_pullOf ⟨_, rfl, rfl⟩ (by first | assumption | rfl) rfl rfl (Nat.le_of_ble_eq_true rfl) (by decide) pKK ?_
  refine M_X2_pullOf ht (Or.inl rfl) hS hH hr hF hw (fun I1 hb => ?_)
  refine pE_iret dX11_pull_18 rfl rfl ?_
  exact hq _ hb
set_option maxHeartbeats 4000000 in
set_option maxRecDepth 100000 in
theorem L_X11_lever {l : Launch} {X : pX} {t g : Nat} {I : pHI} {J : pHJ} {Q : pQ} {H T : pN} {p : pP} (ht : isH t) (hH : cH t H I) (hr : rH H) (hS : cS 33 T I) (hrT : rS 999 H T) (hF : cF (t + 10) p I) (hw : wfp p 0) (hq : ∀ I1, sb I I1 → ∀ m, m ≤ 99 → (∀ i, i < m → ¬ T 25 < liftN p H T (T 24 + i)) → T 25 < liftN p H T (T 24 + m) → Q (some (.int (nI m))) I1 J (pR t g)) (h0 : ∀ I1, sb I I1 → (∀ i, i ≤ 99 → ¬ T 25 < liftN p H T (T 24 + i)) → Q (some (.int (-1))) I1 J (pR t g)) : ∀ (n j : Nat) (I1 : pHI), 100 - j < n → j ≤ 100 → sb I I1 → (∀ i, i < j → ¬ T 25 < liftN p H T (T 24 + i)) → pE l X mX11_lever 4 pK 2 [some (.ref 0), some (.int (nI j))] [] pK I1 J (pR t g) Q := by
  obtain ⟨fHFht0, fHFht1, fHFht2, fHFht3, fHFht4, fHFht5, fHFht6, fHFht7, fHFht8, fHFht9, fHFht10, fHFht11, fHFht12, fHFht13, fHFht14, fHFht15, fHFht16, fHFht17, fHFht18, fHFht19, fHFht20, fHFht21, fHFht22, fHFht23, fHFht24, fHFht25, fHFht26⟩ := HF t g ht
  intro n
  induction n with
  | zero => intro j I1 hn hj; exact absurd hn (Nat.not_lt_zero _)
  | succ n ih =>
    intro j I1 hn hj hx hne
    have hb1 := hrT.1
    have hn20 := hr.1.2
    have hb2 : liftN p H T (T 24 + j) ≤ H 0 := clp_le _ _
    have hS1 := hS.sb (Or.inl rfl) hx
    refine pE_iload_n dX11_lever_2 rfl rfl ?_
    refine pE_bipush (v := nI 99) dX11_lever_3 rfl ?_
    refine pE_icmp_gt (tgt := 46) dX11_lever_5 (by decide) (fun h5 => ?_) (fun h5 => ?_)
    · have g5 := nq_lt (by omega) (by omega) h5
      refine pE_iconst (v := -1) dX11_lever_46 rfl ?_
      refine pE_iret dX11_lever_47 rfl rfl ?_
      exact h0 I1 hx (fun i hi => hne i (by omega))
    · have g5 := nq_nlt (by omega) (by omega) h5
      refine pE_aload_n dX11_lever_8 rfl rfl ?_
      refine pE_getR dX11_lever_9 flX11_29 rfl (by first | assumption | rfl) (by first | assumption | rfl) ?_
      refine pE_aload_n dX11_lever_12 rfl rfl ?_
      refine pE_getR dX11_lever_13 flX11_39 rfl (by first | assumption | rfl) (by first | assumption | rfl) ?_
      refine pE_aload_n dX11_lever_16 rfl rfl ?_
      refine pE_getR dX11_lever_17 flX11_39 rfl (by first | assumption | rfl) (by first | assumption | rfl) ?_
      refine pE_getI dX11_lever_20 flX11_160 rfl (Or.inl rfl) (by first | assumption | rfl) ?_
      rw [hS1.1]
      refine pE_iload_n dX11_lever_23 rfl rfl ?_
      refine pE_iaddN dX11_lever_24 ?_
      refine pE_callV (d' := 3) (as := [_, _]) dX11_lever_25 lkX11_311 (cwX2_liftBehind _ _) ivX2_liftBehind ⟨_, rfl, rfl⟩ (by first | assumption | rfl) rfl rfl (Nat.le_of_ble_eq_true rfl) (by decide) pKK ?_
      refine M_X2_liftBehind ht (Or.inl rfl) hS1 (hH.sx ht (Or.inl rfl) hx.sx) hr (hF.sb (isF_m ht) hx) hw (fun I2 hb => ?_)
      refine pE_aload_n dX11_lever_28 rfl rfl ?_
      refine pE_getR dX11_lever_29 flX11_39 rfl (by first | assumption | rfl) (by first | assumption | rfl) ?_
      refine pE_getI dX11_lever_32 flX11_192 rfl (Or.inl rfl) (by first | assumption | rfl) ?_
      rw [(hS1.sb (Or.inl rfl) hb).2.1]
      refine pE_icmp_le (tgt := 40) dX11_lever_35 (by decide) (fun h35 => ?_) (fun h35 => ?_)
      · have g35 := nq_le (by omega) (by omega) h35
        refine pE_iincN (c0 := 1) (lc' := [_, some (.int _)]) dX11_lever_40 rfl rfl rfl rfl ?_
        refine pE_goto (tgt := 2) dX11_lever_43 (by decide) ?_
        exact ih (j + 1) I2 (by omega) (by omega) (hx.tr hb) (fun i hi => (Nat.lt_or_ge i j).elim (fun h => hne i h) (fun h => by rw [show i = j by omega]; omega))
      · have g35 := nq_nle (by omega) (by omega) h35
        refine pE_iload_n dX11_lever_38 rfl rfl ?_
        refine pE_iret dX11_lever_39 rfl rfl ?_
        exact hq I2 (hx.tr hb) j (by omega) hne (by omega)
set_option maxHeartbeats 4000000 in
set_option maxRecDepth 100000 in
theorem M_X11_lever {l : Launch} {X : pX} {t g : Nat} {I : pHI} {J : pHJ} {Q : pQ} {H T : pN} {p : pP} (ht : isH t) (hH : cH t H I) (hr : rH H) (hS : cS 33 T I) (hrT : rS 999 H T) (hF : cF (t + 10) p I) (hw : wfp p 0) (hq : ∀ I1, sb I I1 → ∀ m, m ≤ 99 → (∀ i, i < m → ¬ T 25 < liftN p H T (T 24 + i)) → T 25 < liftN p H T (T 24 + m) → Q (some (.int (nI m))) I1 J (pR t g)) (h0 : ∀ I1, sb I I1 → (∀ i, i ≤ 99 → ¬ T 25 < liftN p H T (T 24 + i)) → Q (some (.int (-1))) I1 J (pR t g)) : pM l X yX11_lever mX11_lever 4 [.ref 0] pK pK I J (pR t g) Q := by
  refine pM_of rfl (fun h => by cases h) rfl pKM (Nat.le_of_ble_eq_true rfl) ?_
  refine pE_iconst (v := nI 0) dX11_lever_0 rfl ?_
  refine pE_istore_n (lc' := [_, some (.int _)]) dX11_lever_1 rfl (Nat.le_of_ble_eq_true rfl) rfl rfl ?_
  exact L_X11_lever ht hH hr hS hrT hF hw hq h0 101 0 I (by omega) (by omega) sb.rf (fun i hi => absurd hi (Nat.not_lt_zero _))
set_option maxHeartbeats 4000000 in
set_option maxRecDepth 100000 in
theorem L_X11_ruin {l : Launch} {X : pX} {t g : Nat} {I : pHI} {J : pHJ} {Q : pQ} {H T : pN} {y1 : Int32} (ht : isH t) (hH : cH t H I) (hr : rH H) (hT : cS 37 T I) (hq : Q (some (.int (nI (sumN (fun j => T (16 + j)) (H 1))))) I J (pR t g)) : ∀ (n j : Nat), H 1 - j < n → j ≤ H 1 → pE l X mX11_ruin 6 pK 14 [some (.ref 0), some (.int y1), some (.int (nI (sumN (fun j => T (16 + j)) j))), some (.int (nI j))] [] pK I J (pR t g) Q := by
  obtain ⟨fHFht0, fHFht1, fHFht2, fHFht3, fHFht4, fHFht5, fHFht6, fHFht7, fHFht8, fHFht9, fHFht10, fHFht11, fHFht12, fHFht13, fHFht14, fHFht15, fHFht16, fHFht17, fHFht18, fHFht19, fHFht20, fHFht21, fHFht22, fHFht23, fHFht24, fHFht25, fHFht26⟩ := HF t g ht
  intro n
  induction n with
  | zero => intro j hn hj; exact absurd hn (Nat.not_lt_zero _)
  | succ n ih =>
    intro j hn hj
    have hn8 := hr.2.1
    refine pE_iload_n dX11_ruin_14 rfl rfl ?_
    refine pE_aload_n dX11_ruin_15 rfl rfl ?_
    refine pE_getR dX11_ruin_16 flX11_29 rfl (by first | assumption | rfl) (by first | assumption | rfl) ?_
    refine pE_getI dX11_ruin_19 flX11_110 rfl (Or.inl rfl) (by first | assumption | rfl) ?_
    rw [hH.2.2.1]
    refine pE_icmp_ge (tgt := 43) dX11_ruin_22 (by decide) (fun h22 => ?_) (fun h22 => ?_)
    · have g22 := nq_le (by omega) (by omega) h22
      refine pE_iload_n dX11_ruin_43 rfl rfl ?_
      refine pE_iret dX11_ruin_44 rfl rfl ?_
      obtain rfl : j = H 1 := by omega
      exact hq
    · have g22 := nq_nle (by omega) (by omega) h22
      refine pE_iload_n dX11_ruin_25 rfl rfl ?_
      refine pE_aload_n dX11_ruin_26 rfl rfl ?_
      refine pE_getR dX11_ruin_27 flX11_43 rfl (by first | assumption | rfl) (by first | assumption | rfl) ?_
      refine pE_getR dX11_ruin_30 flX11_145 rfl (by first | assumption | rfl) (by first | assumption | rfl) ?_
      refine pE_iload_n dX11_ruin_33 rfl rfl ?_
      refine pE_ialoadN dX11_ruin_34 (by first | assumption | rfl) (by first | assumption | omega) (by omega) ?_
      rw [(hT.2.2.2.2 j (by omega)).2.2]
      refine pE_iaddN dX11_ruin_35 ?_
      refine pE_istore_n (lc' := [_, _, some (.int _), _]) dX11_ruin_36 rfl (Nat.le_of_ble_eq_true rfl) rfl rfl ?_
      refine pE_iincN (c0 := 1) (lc' := [_, _, _, some (.int _)]) dX11_ruin_37 rfl rfl rfl rfl ?_
      refine pE_goto (tgt := 14) dX11_ruin_40 (by decide) ?_
      exact ih (j + 1) (by omega) (by omega)
set_option maxHeartbeats 4000000 in
set_option maxRecDepth 100000 in
theorem M_X11_ruin {l : Launch} {X : pX} {t g : Nat} {I : pHI} {J : pHJ} {Q : pQ} {x : Int32} {H T : pN} {p : pP} (ht : isH t) (hH : cH t H I) (hr : rH H) (hS : cS 33 T I) (hrT : rS 999 H T) (hF : cF (t + 10) p I) (hw : wfp p 0) (h1 : ∀ m, x = nI m → m ≤ 60 → ∀ I1, sx 37 I I1 → Q (some (.int (nI (sumN (fun j => wksN p H T m (16 + j)) (H 1))))) I1 J (pR t g)) (h0 : (∀ m, m ≤ 60 → x ≠ nI m) → Q (some (.int (-1))) I J (pR t g)) : pM l X yX11_ruin mX11_ruin 6 [.ref 0, .int x] pK pK I J (pR t g) Q := by
  refine pM_of rfl (fun h => by cases h) rfl pKM (Nat.le_of_ble_eq_true rfl) ?_
  refine pE_aload_n dX11_ruin_0 rfl rfl ?_
  refine pE_iload_n dX11_ruin_1 rfl rfl ?_
  refine pE_callV (d' := 5) (as := [_]) dX11_ruin_2 lkX11_305 (cwX11_lookAhead _ _) ivX11_lookAhead ⟨_, rfl, rfl⟩ (by first | assumption | rfl) rfl rfl (Nat.le_of_ble_eq_true rfl) (by decide) pKK ?_
  refine M_X11_lookAhead ht hH hr hS hrT hF hw (fun m e hm I1 hx hT => ?_) (fun hno => ?_)
  · refine pE_if_ne_t (tgt := 10) dX11_ruin_5 (by decide) nI_1n0 ?_
    refine pE_iconst (v := nI 0) dX11_ruin_10 rfl ?_
    refine pE_istore_n (lc' := [_, _, some (.int _), _]) dX11_ruin_11 rfl (Nat.le_of_ble_eq_true rfl) rfl rfl ?_
    refine pE_iconst (v := nI 0) dX11_ruin_12 rfl ?_
    refine pE_istore_n (lc' := [_, _, _, some (.int _)]) dX11_ruin_13 rfl (Nat.le_of_ble_eq_true rfl) rfl rfl ?_
    exact L_X11_ruin ht (hH.sx ht (Or.inr rfl) hx) hr hT (h1 m e hm I1 hx) (H 1 + 1) 0 (by omega) (by omega)
  · refine pE_if_ne_f (tgt := 10) dX11_ruin_5 (by decide) nI_0 ?_
    refine pE_iconst (v := -1) dX11_ruin_8 rfl ?_
    refine pE_iret dX11_ruin_9 rfl rfl ?_
    exact h0 hno
