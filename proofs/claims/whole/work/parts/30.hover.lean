theorem pu_off {t : Nat} {I : pHI} {x : Int32} {c k k' : Nat} (ht : isH t) (a : t ≤ c) (b : c ≤ t + 5) : pu I 37 k' x c k = I c k := by
  rw [pu_ne _ _ _ (by rcases ht with rfl | rfl <;> omega)]
theorem cF.off37 {f k' : Nat} {p : pP} {I : pHI} {x : Int32} (hf : isF f) (h : cF f p I) : cF f p (pu I 37 k' x) := by
  obtain ⟨h1, h2, h3⟩ := h
  have n0 : f ≠ 37 := by rcases hf with rfl | rfl | rfl | rfl <;> decide
  have n1 : f + 1 ≠ 37 := by rcases hf with rfl | rfl | rfl | rfl <;> decide
  have n2 : f + 2 ≠ 37 := by rcases hf with rfl | rfl | rfl | rfl <;> decide
  refine ⟨h1, by rw [pu_ne _ _ _ n0]; exact h2, fun i q hi => ?_⟩
  rw [pu_ne _ _ _ n1, pu_ne _ _ _ n2]
  exact h3 i q hi
set_option maxHeartbeats 4000000 in
set_option maxRecDepth 100000 in
theorem L_X11_hover {l : Launch} {X : pX} {t g : Nat} {I : pHI} {J : pHJ} {Q : pQ} {c : Nat} {H T : pN} {p : pP} (ht : isH t) (hH : cH t H I) (hr : rH H) (hS : cS 33 T I) (hrT : rS 999 H T) (hF : cF (t + 10) p I) (hw : wfp p 0) (hc : c ≤ 999) (hq : ∀ I1, sx 37 I I1 → Q (some (.int (nI (hovN p H c T 60 25)))) I1 J (pR t g)) : ∀ (n j : Nat) (I1 : pHI), 60 - j < n → j ≤ 60 → sx 37 I I1 → cS 37 (hovN p H c T j) I1 → pE l X mX11_hover 5 pK 26 [some (.ref 0), some (.int (nI c)), some (.int (nI j))] [] pK I1 J (pR t g) Q := by
  obtain ⟨fHFht0, fHFht1, fHFht2, fHFht3, fHFht4, fHFht5, fHFht6, fHFht7, fHFht8, fHFht9, fHFht10, fHFht11, fHFht12, fHFht13, fHFht14, fHFht15, fHFht16, fHFht17, fHFht18, fHFht19, fHFht20, fHFht21, fHFht22, fHFht23, fHFht24, fHFht25, fHFht26⟩ := HF t g ht
  intro n
  induction n with
  | zero => intro j I1 hn hj; exact absurd hn (Nat.not_lt_zero _)
  | succ n ih =>
    intro j I1 hn hj hx hT1
    refine pE_iload_n dX11_hover_26 rfl rfl ?_
    refine pE_bipush (v := nI 60) dX11_hover_27 rfl ?_
    refine pE_icmp_ge (tgt := 57) dX11_hover_29 (by decide) (fun h29 => ?_) (fun h29 => ?_)
    · have g29 := nq_le (by omega) (by omega) h29
      refine pE_aload_n dX11_hover_57 rfl rfl ?_
      refine pE_getR dX11_hover_58 flX11_43 rfl (by first | assumption | rfl) (by first | assumption | rfl) ?_
      refine pE_getI dX11_hover_61 flX11_192 rfl (Or.inl rfl) (by first | assumption | rfl) ?_
      rw [hT1.2.1]
      refine pE_iret dX11_hover_64 rfl rfl ?_
      obtain rfl : j = 60 := by omega
      exact hq _ hx
    · have g29 := nq_nle (by omega) (by omega) h29
      refine pE_aload_n dX11_hover_32 rfl rfl ?_
      refine pE_getR dX11_hover_33 flX11_43 rfl (by first | assumption | rfl) (by first | assumption | rfl) ?_
      refine pE_iload_n dX11_hover_36 rfl rfl ?_
      refine pE_putI dX11_hover_37 flX11_160 ftX9 fiX9_3 rfl rfl (by first | assumption | rfl) ?_
      refine pE_aload_n dX11_hover_40 rfl rfl ?_
      refine pE_getR dX11_hover_41 flX11_29 rfl (by first | assumption | rfl) (by first | assumption | rfl) ?_
      refine pE_aload_n dX11_hover_44 rfl rfl ?_
      refine pE_getR dX11_hover_45 flX11_43 rfl (by first | assumption | rfl) (by first | assumption | rfl) ?_
      refine pE_callV (d' := 4) (as := [_]) dX11_hover_48 lkX11_189 (cwX2_passWeek _ _) ivX2_passWeek ⟨_, rfl, rfl⟩ (by first | assumption | rfl) rfl rfl (Nat.le_of_ble_eq_true rfl) (by decide) pKK ?_
      refine M_X2_passWeek ht (Or.inr rfl) hr (hT1.sc (k := 3) (q := 24) (v := c) (Or.inl ⟨rfl, rfl⟩)) ((hH.sx ht (Or.inr rfl) hx).off (fun c k a b => pu_off ht a b)) (cF.off37 (isF_m ht) (hF.sx (isF_m ht) (Or.inr rfl) hx)) hw (rS_up24 (rS_hov hr hrT j (by omega))) (fun I2 hx2 hT2 => ?_)
      refine pE_iincN (c0 := 1) (lc' := [_, _, some (.int _)]) dX11_hover_51 rfl rfl rfl rfl ?_
      refine pE_goto (tgt := 26) dX11_hover_54 (by decide) ?_
      exact ih (j + 1) I2 (by omega) (by omega) ((hx.pu (c := 37) (k := 3) (x := nI c) (by omega)).tr hx2) hT2
set_option maxHeartbeats 4000000 in
set_option maxRecDepth 100000 in
theorem M_X11_hover {l : Launch} {X : pX} {t g : Nat} {I : pHI} {J : pHJ} {Q : pQ} {x : Int32} {H T : pN} {p : pP} (ht : isH t) (hH : cH t H I) (hr : rH H) (hS : cS 33 T I) (hrT : rS 999 H T) (hF : cF (t + 10) p I) (hw : wfp p 0) (h1 : ∀ c, x = nI c → c ≤ 999 → ∀ I1, sx 37 I I1 → Q (some (.int (nI (hovN p H c T 60 25)))) I1 J (pR t g)) (h0 : (∀ c, c ≤ 999 → x ≠ nI c) → Q (some (.int (-1))) I J (pR t g)) : pM l X yX11_hover mX11_hover 5 [.ref 0, .int x] pK pK I J (pR t g) Q := by
  obtain ⟨fHFht0, fHFht1, fHFht2, fHFht3, fHFht4, fHFht5, fHFht6, fHFht7, fHFht8, fHFht9, fHFht10, fHFht11, fHFht12, fHFht13, fHFht14, fHFht15, fHFht16, fHFht17, fHFht18, fHFht19, fHFht20, fHFht21, fHFht22, fHFht23, fHFht24, fHFht25, fHFht26⟩ := HF t g ht
  refine pM_of rfl (fun h => by cases h) rfl pKM (Nat.le_of_ble_eq_true rfl) ?_
  rcases nI_or x with hx | ⟨m, hm, rfl⟩
  · refine pE_iload_n dX11_hover_0 rfl rfl ?_
    refine pE_if_lt (tgt := 11) dX11_hover_1 (by decide) (fun h1' => ?_) (fun h1' => ?_)
    · refine pE_iconst (v := -1) dX11_hover_11 rfl ?_
      refine pE_iret dX11_hover_12 rfl rfl ?_
      exact h0 (fun m hm e => by rw [e] at hx; exact absurd hx (nI_pos (by omega)))
    · exact absurd hx h1'
  · refine pE_iload_n dX11_hover_0 rfl rfl ?_
    refine pE_if_lt (tgt := 11) dX11_hover_1 (by decide) (fun h1' => ?_) (fun h1' => ?_)
    · exact absurd h1' (nI_pos (by omega))
    · refine pE_iload_n dX11_hover_4 rfl rfl ?_
      refine pE_sipush (v := nI 999) dX11_hover_5 rfl ?_
      refine pE_icmp_le (tgt := 13) dX11_hover_8 (by decide) (fun h8 => ?_) (fun h8 => ?_)
      · have g8 := nq_le (by omega) (by omega) h8
        refine pE_aload_n dX11_hover_13 rfl rfl ?_
        refine pE_getR dX11_hover_14 flX11_43 rfl (by first | assumption | rfl) (by first | assumption | rfl) ?_
        refine pE_aload_n dX11_hover_17 rfl rfl ?_
        refine pE_getR dX11_hover_18 flX11_39 rfl (by first | assumption | rfl) (by first | assumption | rfl) ?_
        refine pE_callV (d' := 1) (as := [_]) dX11_hover_21 lkX11_232 (cwX9_copyFrom _ _) ivX9_copyFrom ⟨_, rfl, rfl⟩ (by first | assumption | rfl) rfl rfl (Nat.le_of_ble_eq_true rfl) (by decide) pKK ?_
        refine M_X9_copyFrom hS (fun I1 hx hT1 => ?_)
        refine pE_iconst (v := nI 0) dX11_hover_24 rfl ?_
        refine pE_istore_n (lc' := [_, _, some (.int _)]) dX11_hover_25 rfl (Nat.le_of_ble_eq_true rfl) rfl rfl ?_
        exact L_X11_hover ht hH hr hS hrT hF hw (by omega) (fun I2 a => h1 m rfl (by omega) I2 a) 61 0 I1 (by omega) (by omega) hx hT1
      · have g8 := nq_nle (by omega) (by omega) h8
        refine pE_iconst (v := -1) dX11_hover_11 rfl ?_
        refine pE_iret dX11_hover_12 rfl rfl ?_
        exact h0 (fun i hi e => by have := nq_eq hm (by omega) e; omega)
set_option maxHeartbeats 4000000 in
set_option maxRecDepth 100000 in
theorem L_X12_hover {l : Launch} {X : pX} {t g : Nat} {I : pHI} {J : pHJ} {Q : pQ} {c : Nat} {H T : pN} {p pc : pP} (hH : mH H I) (hr : rH H) (hS : mS 90 T I) (hrT : rS 999 H T) (hF : mF 1 p I) (hw : p = [] ∨ wfp p 0) (hpc : fR 1 p pc) (hq : ∀ I1, sm I I1 → Q (some (.int (nI (hovN pc H c T 60 25)))) I1 J (pR t g)) : ∀ (n j : Nat) (I1 : pHI), 60 - j < n → j ≤ 60 → sm I I1 → mS 91 (hovN pc H c T j) I1 → pE l X mX12_hover 5 pK 19 [some (.ref 67), some (.int (nI c)), some (.int (nI j))] [] pK I1 J (pR t g) Q := by
  intro n
  induction n with
  | zero => intro j I1 hn hj; exact absurd hn (Nat.not_lt_zero _)
  | succ n ih =>
    intro j I1 hn hj hx hT1
    refine pE_iload_n dX12_hover_19 rfl rfl ?_
    refine pE_bipush (v := nI 60) dX12_hover_20 rfl ?_
    refine pE_icmp_ge (tgt := 43) dX12_hover_22 (by decide) (fun h22 => ?_) (fun h22 => ?_)
    · have g22 := nq_le (by omega) (by omega) h22
      refine pE_aload_n dX12_hover_43 rfl rfl ?_
      refine pE_getR dX12_hover_44 flX12_88 rfl (by first | assumption | rfl) (by first | assumption | rfl) ?_
      refine pE_bipush (v := nI 25) dX12_hover_47 rfl ?_
      refine pE_ialoadN dX12_hover_49 (by first | assumption | rfl) (by first | assumption | omega) (by omega) ?_
      rw [hT1 25 (by omega)]
      refine pE_iret dX12_hover_50 rfl rfl ?_
      obtain rfl : j = 60 := by omega
      exact hq _ hx
    · have g22 := nq_nle (by omega) (by omega) h22
      refine pE_aload_n dX12_hover_25 rfl rfl ?_
      refine pE_getR dX12_hover_26 flX12_88 rfl (by first | assumption | rfl) (by first | assumption | rfl) ?_
      refine pE_bipush (v := nI 24) dX12_hover_29 rfl ?_
      refine pE_iload_n dX12_hover_31 rfl rfl ?_
      refine pE_iastoreN dX12_hover_32 (by first | assumption | rfl) (by first | assumption | omega) (by omega) ?_
      refine pE_aload_n dX12_hover_33 rfl rfl ?_
      refine pE_callV (d' := 4) (as := []) dX12_hover_34 lkX12_417 (cwX12_goWeek _ _) ivX12_goWeek ⟨_, rfl, rfl⟩ (by first | assumption | rfl) rfl rfl (Nat.le_of_ble_eq_true rfl) (by decide) pKK ?_
      refine M_X12_goWeek (hH.sm (hx.pu)) hr (hT1.pu (k := 24) (v := c)) (hF.sm (hx.pu)) hw hpc (rS_up24 (rS_hov hr hrT j (by omega))) (fun I2 hx2 hT2 => ?_)
      refine pE_iincN (c0 := 1) (lc' := [_, _, some (.int _)]) dX12_hover_37 rfl rfl rfl rfl ?_
      refine pE_goto (tgt := 19) dX12_hover_40 (by decide) ?_
      exact ih (j + 1) I2 (by omega) (by omega) ((hx.pu).tr hx2) hT2
set_option maxHeartbeats 4000000 in
set_option maxRecDepth 100000 in
theorem M_X12_hover {l : Launch} {X : pX} {t g : Nat} {I : pHI} {J : pHJ} {Q : pQ} {x : Int32} {H T : pN} {p pc : pP} (hH : mH H I) (hr : rH H) (hS : mS 90 T I) (hrT : rS 999 H T) (hF : mF 1 p I) (hw : p = [] ∨ wfp p 0) (hpc : fR 1 p pc) (h1 : ∀ c, x = nI c → c ≤ 999 → ∀ I1, sm I I1 → Q (some (.int (nI (hovN pc H c T 60 25)))) I1 J (pR t g)) (h0 : (∀ c, c ≤ 999 → x ≠ nI c) → Q (some (.int (-1))) I J (pR t g)) : pM l X yX12_hover mX12_hover 5 [.ref 67, .int x] pK pK I J (pR t g) Q := by
  refine pM_of rfl (fun h => by cases h) rfl pKM (Nat.le_of_ble_eq_true rfl) ?_
  refine pE_iload_n dX12_hover_0 rfl rfl ?_
  refine pE_iconst (v := nI 0) dX12_hover_1 rfl ?_
  refine pE_sipush (v := nI 999) dX12_hover_2 rfl ?_
  refine pE_callS (d' := 0) (as := [_, _, _]) dX12_hover_5 lkX12_368 (cwX12_isIn _ _) svX12_isIn rfl rfl (Nat.le_of_ble_eq_true rfl) (by decide) pKK ?_
  refine M_X12_isIn  (fun k1 k2 => ?_) (fun k => ?_)
  · obtain ⟨c, rfl, m1, m2⟩ := in_rng (by omega) (by omega) k1 k2
    refine pE_if_ne_t (tgt := 13) dX12_hover_8 (by decide) nI_1n0 ?_
    refine pE_aload_n dX12_hover_13 rfl rfl ?_
    refine pE_callV (d' := 0) (as := []) dX12_hover_14 lkX12_394 (cwX12_load _ _) ivX12_load ⟨_, rfl, rfl⟩ (by first | assumption | rfl) rfl rfl (Nat.le_of_ble_eq_true rfl) (by decide) pKK ?_
    refine M_X12_load ?_
    refine pE_iconst (v := nI 0) dX12_hover_17 rfl ?_
    refine pE_istore_n (lc' := [_, _, some (.int _)]) dX12_hover_18 rfl (Nat.le_of_ble_eq_true rfl) rfl rfl ?_
    exact L_X12_hover hH hr hS hrT hF hw hpc (fun I1 hx => h1 c rfl m2 I1 hx) 61 0 _ (by omega) (by omega) sm.load hS.load
  · have hno := out_rng (by omega) (by omega) k
    refine pE_if_ne_f (tgt := 13) dX12_hover_8 (by decide) nI_0 ?_
    refine pE_iconst (v := -1) dX12_hover_11 rfl ?_
    refine pE_iret dX12_hover_12 rfl rfl ?_
    exact h0 (fun m hm => hno m (Nat.zero_le _) hm)
