set_option maxHeartbeats 4000000 in
set_option maxRecDepth 100000 in
theorem L_X12_goFar {l : Launch} {X : pX} {t g : Nat} {I : pHI} {J : pHJ} {Q : pQ} {m : Nat} {H T : pN} {p pc : pP} (hH : mH H I) (hr : rH H) (hS : mS 90 T I) (hrT : rS 999 H T) (hF : mF 1 p I) (hw : p = [] ∨ wfp p 0) (hpc : fR 1 p pc) (hm : m ≤ 60) (hq : ∀ I1, sm I I1 → mS 91 (wksN pc H T m) I1 → Q none I1 J (pR t g)) : ∀ (n j : Nat) (I1 : pHI), m - j < n → j ≤ m → sm I I1 → mS 91 (wksN pc H T j) I1 → pE l X mX12_goFar 5 pK 6 [some (.ref 67), some (.int (nI m)), some (.int (nI j))] [] pK I1 J (pR t g) Q := by
  intro n
  induction n with
  | zero => intro j I1 hn hj; exact absurd hn (Nat.not_lt_zero _)
  | succ n ih =>
    intro j I1 hn hj hx hT1
    refine pE_iload_n dX12_goFar_6 rfl rfl ?_
    refine pE_iload_n dX12_goFar_7 rfl rfl ?_
    refine pE_icmp_ge (tgt := 21) dX12_goFar_8 (by decide) (fun h8 => ?_) (fun h8 => ?_)
    · have g8 := nq_le (by omega) (by omega) h8
      refine pE_vret dX12_goFar_21 rfl rfl ?_
      obtain rfl : j = m := by omega
      exact hq _ hx hT1
    · have g8 := nq_nle (by omega) (by omega) h8
      refine pE_aload_n dX12_goFar_11 rfl rfl ?_
      refine pE_callV (d' := 4) (as := []) dX12_goFar_12 lkX12_417 (cwX12_goWeek _ _) ivX12_goWeek ⟨_, rfl, rfl⟩ (by first | assumption | rfl) rfl rfl (Nat.le_of_ble_eq_true rfl) (by decide) pKK ?_
      refine M_X12_goWeek (hH.sm hx) hr hT1 (hF.sm hx) hw hpc (rS_wks hr hrT j (by omega)) (fun I2 hx2 hT2 => ?_)
      refine pE_iincN (c0 := 1) (lc' := [_, _, some (.int _)]) dX12_goFar_15 rfl rfl rfl rfl ?_
      refine pE_goto (tgt := 6) dX12_goFar_18 (by decide) ?_
      exact ih (j + 1) I2 (by omega) (by omega) (hx.tr hx2) hT2
set_option maxHeartbeats 4000000 in
set_option maxRecDepth 100000 in
theorem M_X12_goFar {l : Launch} {X : pX} {t g : Nat} {I : pHI} {J : pHJ} {Q : pQ} {m : Nat} {H T : pN} {p pc : pP} (hH : mH H I) (hr : rH H) (hS : mS 90 T I) (hrT : rS 999 H T) (hF : mF 1 p I) (hw : p = [] ∨ wfp p 0) (hpc : fR 1 p pc) (hm : m ≤ 60) (hq : ∀ I1, sm I I1 → mS 91 (wksN pc H T m) I1 → Q none I1 J (pR t g)) : pM l X yX12_goFar mX12_goFar 5 [.ref 67, .int (nI m)] pK pK I J (pR t g) Q := by
  refine pM_of rfl (fun h => by cases h) rfl pKM (Nat.le_of_ble_eq_true rfl) ?_
  refine pE_aload_n dX12_goFar_0 rfl rfl ?_
  refine pE_callV (d' := 0) (as := []) dX12_goFar_1 lkX12_394 (cwX12_load _ _) ivX12_load ⟨_, rfl, rfl⟩ (by first | assumption | rfl) rfl rfl (Nat.le_of_ble_eq_true rfl) (by decide) pKK ?_
  refine M_X12_load ?_
  refine pE_iconst (v := nI 0) dX12_goFar_4 rfl ?_
  refine pE_istore_n (lc' := [_, _, some (.int _)]) dX12_goFar_5 rfl (Nat.le_of_ble_eq_true rfl) rfl rfl ?_
  exact L_X12_goFar hH hr hS hrT hF hw hpc hm hq (m + 1) 0 _ (by omega) (by omega) sm.load hS.load
set_option maxHeartbeats 4000000 in
set_option maxRecDepth 100000 in
theorem M_X12_will {l : Launch} {X : pX} {t g : Nat} {I : pHI} {J : pHJ} {Q : pQ} {x : Int32} {H T : pN} {p pc : pP} (hH : mH H I) (hr : rH H) (hS : mS 90 T I) (hrT : rS 999 H T) (hF : mF 1 p I) (hw : p = [] ∨ wfp p 0) (hpc : fR 1 p pc) (h1 : ∀ m, x = nI m → m ≤ 60 → ∀ I1, sm I I1 → Q (some (.int (nI (wksN pc H T m 25)))) I1 J (pR t g)) (h0 : (∀ m, m ≤ 60 → x ≠ nI m) → Q (some (.int (-1))) I J (pR t g)) : pM l X yX12_will mX12_will 6 [.ref 67, .int x] pK pK I J (pR t g) Q := by
  refine pM_of rfl (fun h => by cases h) rfl pKM (Nat.le_of_ble_eq_true rfl) ?_
  refine pE_iload_n dX12_will_0 rfl rfl ?_
  refine pE_iconst (v := nI 0) dX12_will_1 rfl ?_
  refine pE_bipush (v := nI 60) dX12_will_2 rfl ?_
  refine pE_callS (d' := 0) (as := [_, _, _]) dX12_will_4 lkX12_368 (cwX12_isIn _ _) svX12_isIn rfl rfl (Nat.le_of_ble_eq_true rfl) (by decide) pKK ?_
  refine M_X12_isIn  (fun k1 k2 => ?_) (fun k => ?_)
  · obtain ⟨m, rfl, m1, m2⟩ := in_rng (by omega) (by omega) k1 k2
    refine pE_if_ne_t (tgt := 12) dX12_will_7 (by decide) nI_1n0 ?_
    refine pE_aload_n dX12_will_12 rfl rfl ?_
    refine pE_iload_n dX12_will_13 rfl rfl ?_
    refine pE_callV (d' := 5) (as := [_]) dX12_will_14 lkX12_476 (cwX12_goFar _ _) ivX12_goFar ⟨_, rfl, rfl⟩ (by first | assumption | rfl) rfl rfl (Nat.le_of_ble_eq_true rfl) (by decide) pKK ?_
    refine M_X12_goFar hH hr hS hrT hF hw hpc m2 (fun I1 hx hT => ?_)
    refine pE_aload_n dX12_will_17 rfl rfl ?_
    refine pE_getR dX12_will_18 flX12_88 rfl (by first | assumption | rfl) (by first | assumption | rfl) ?_
    refine pE_bipush (v := nI 25) dX12_will_21 rfl ?_
    refine pE_ialoadN dX12_will_23 (by first | assumption | rfl) (by first | assumption | omega) (by omega) ?_
    rw [hT 25 (by omega)]
    refine pE_iret dX12_will_24 rfl rfl ?_
    exact h1 m rfl m2 I1 hx
  · have hno := out_rng (by omega) (by omega) k
    refine pE_if_ne_f (tgt := 12) dX12_will_7 (by decide) nI_0 ?_
    refine pE_iconst (v := -1) dX12_will_10 rfl ?_
    refine pE_iret dX12_will_11 rfl rfl ?_
    exact h0 (fun m hm => hno m (Nat.zero_le _) hm)
set_option maxHeartbeats 4000000 in
set_option maxRecDepth 100000 in
theorem L_X12_ruin {l : Launch} {X : pX} {t g : Nat} {I : pHI} {J : pHJ} {Q : pQ} {H T : pN} {y1 : Int32} (hH : mH H I) (hr : rH H) (hT : mS 91 T I) (hq : Q (some (.int (nI (sumN (fun j => T (16 + j)) (H 1))))) I J (pR t g)) : ∀ (n j : Nat), H 1 - j < n → j ≤ H 1 → pE l X mX12_ruin 6 pK 21 [some (.ref 67), some (.int y1), some (.int (nI (sumN (fun j => T (16 + j)) j))), some (.int (nI j))] [] pK I J (pR t g) Q := by
  intro n
  induction n with
  | zero => intro j hn hj; exact absurd hn (Nat.not_lt_zero _)
  | succ n ih =>
    intro j hn hj
    have hn8 := hr.2.1
    refine pE_iload_n dX12_ruin_21 rfl rfl ?_
    refine pE_aload_n dX12_ruin_22 rfl rfl ?_
    refine pE_getI dX12_ruin_23 flX12_350 rfl (Or.inl rfl) (by first | assumption | rfl) ?_
    rw [hH.2.1]
    refine pE_icmp_ge (tgt := 47) dX12_ruin_26 (by decide) (fun h26 => ?_) (fun h26 => ?_)
    · have g26 := nq_le (by omega) (by omega) h26
      refine pE_iload_n dX12_ruin_47 rfl rfl ?_
      refine pE_iret dX12_ruin_48 rfl rfl ?_
      obtain rfl : j = H 1 := by omega
      exact hq
    · have g26 := nq_nle (by omega) (by omega) h26
      refine pE_iload_n dX12_ruin_29 rfl rfl ?_
      refine pE_aload_n dX12_ruin_30 rfl rfl ?_
      refine pE_getR dX12_ruin_31 flX12_88 rfl (by first | assumption | rfl) (by first | assumption | rfl) ?_
      refine pE_bipush (v := nI 16) dX12_ruin_34 rfl ?_
      refine pE_iload_n dX12_ruin_36 rfl rfl ?_
      refine pE_iaddN dX12_ruin_37 ?_
      refine pE_ialoadN dX12_ruin_38 (by first | assumption | rfl) (by first | assumption | omega) (by omega) ?_
      rw [hT (16 + j) (by omega)]
      refine pE_iaddN dX12_ruin_39 ?_
      refine pE_istore_n (lc' := [_, _, some (.int _), _]) dX12_ruin_40 rfl (Nat.le_of_ble_eq_true rfl) rfl rfl ?_
      refine pE_iincN (c0 := 1) (lc' := [_, _, _, some (.int _)]) dX12_ruin_41 rfl rfl rfl rfl ?_
      refine pE_goto (tgt := 21) dX12_ruin_44 (by decide) ?_
      exact ih (j + 1) (by omega) (by omega)
set_option maxHeartbeats 4000000 in
set_option maxRecDepth 100000 in
theorem M_X12_ruin {l : Launch} {X : pX} {t g : Nat} {I : pHI} {J : pHJ} {Q : pQ} {x : Int32} {H T : pN} {p pc : pP} (hH : mH H I) (hr : rH H) (hS : mS 90 T I) (hrT : rS 999 H T) (hF : mF 1 p I) (hw : p = [] ∨ wfp p 0) (hpc : fR 1 p pc) (h1 : ∀ m, x = nI m → m ≤ 60 → ∀ I1, sm I I1 → Q (some (.int (nI (sumN (fun j => wksN pc H T m (16 + j)) (H 1))))) I1 J (pR t g)) (h0 : (∀ m, m ≤ 60 → x ≠ nI m) → Q (some (.int (-1))) I J (pR t g)) : pM l X yX12_ruin mX12_ruin 6 [.ref 67, .int x] pK pK I J (pR t g) Q := by
  refine pM_of rfl (fun h => by cases h) rfl pKM (Nat.le_of_ble_eq_true rfl) ?_
  refine pE_iload_n dX12_ruin_0 rfl rfl ?_
  refine pE_iconst (v := nI 0) dX12_ruin_1 rfl ?_
  refine pE_bipush (v := nI 60) dX12_ruin_2 rfl ?_
  refine pE_callS (d' := 0) (as := [_, _, _]) dX12_ruin_4 lkX12_368 (cwX12_isIn _ _) svX12_isIn rfl rfl (Nat.le_of_ble_eq_true rfl) (by decide) pKK ?_
  refine M_X12_isIn  (fun k1 k2 => ?_) (fun k => ?_)
  · obtain ⟨m, rfl, m1, m2⟩ := in_rng (by omega) (by omega) k1 k2
    refine pE_if_ne_t (tgt := 12) dX12_ruin_7 (by decide) nI_1n0 ?_
    refine pE_aload_n dX12_ruin_12 rfl rfl ?_
    refine pE_iload_n dX12_ruin_13 rfl rfl ?_
    refine pE_callV (d' := 5) (as := [_]) dX12_ruin_14 lkX12_476 (cwX12_goFar _ _) ivX12_goFar ⟨_, rfl, rfl⟩ (by first | assumption | rfl) rfl rfl (Nat.le_of_ble_eq_true rfl) (by decide) pKK ?_
    refine M_X12_goFar hH hr hS hrT hF hw hpc m2 (fun I1 hx hT => ?_)
    refine pE_iconst (v := nI 0) dX12_ruin_17 rfl ?_
    refine pE_istore_n (lc' := [_, _, some (.int _), _]) dX12_ruin_18 rfl (Nat.le_of_ble_eq_true rfl) rfl rfl ?_
    refine pE_iconst (v := nI 0) dX12_ruin_19 rfl ?_
    refine pE_istore_n (lc' := [_, _, _, some (.int _)]) dX12_ruin_20 rfl (Nat.le_of_ble_eq_true rfl) rfl rfl ?_
    exact L_X12_ruin (hH.sm hx) hr hT (h1 m rfl m2 I1 hx) (H 1 + 1) 0 (by omega) (by omega)
  · have hno := out_rng (by omega) (by omega) k
    refine pE_if_ne_f (tgt := 12) dX12_ruin_7 (by decide) nI_0 ?_
    refine pE_iconst (v := -1) dX12_ruin_10 rfl ?_
    refine pE_iret dX12_ruin_11 rfl rfl ?_
    exact h0 (fun m hm => hno m (Nat.zero_le _) hm)
set_option maxHeartbeats 4000000 in
set_option maxRecDepth 100000 in
theorem L_X12_rest {l : Launch} {X : pX} {t g : Nat} {I : pHI} {J : pHJ} {Q : pQ} {H T : pN} {p pc : pP} (hH : mH H I) (hr : rH H) (hS : mS 90 T I) (hrT : rS 999 H T) (hF : mF 1 p I) (hw : p = [] ∨ wfp p 0) (hpc : fR 1 p pc) (hq : ∀ I1, sm I I1 → ∀ m, m ≤ 60 → (∀ i, i < m → wksN pc H T (i + 1) 25 ≠ wksN pc H T i 25) → wksN pc H T (m + 1) 25 = wksN pc H T m 25 → Q (some (.int (nI m))) I1 J (pR t g)) (h0 : ∀ I1, sm I I1 → (∀ i, i ≤ 60 → wksN pc H T (i + 1) 25 ≠ wksN pc H T i 25) → Q (some (.int (-1))) I1 J (pR t g)) : ∀ (n j : Nat) (I1 : pHI) (v2 : Option Value), 61 - j < n → j ≤ 61 → sm I I1 → mS 91 (wksN pc H T j) I1 → (∀ i, i < j → wksN pc H T (i + 1) 25 ≠ wksN pc H T i 25) → pE l X mX12_rest 5 pK 6 [some (.ref 67), some (.int (nI j)), v2] [] pK I1 J (pR t g) Q := by
  intro n
  induction n with
  | zero => intro j I1 v2 hn hj; exact absurd hn (Nat.not_lt_zero _)
  | succ n ih =>
    intro j I1 v2 hn hj hx hT1 hne
    have hb1 := (rS_wks (p := pc) hr hrT j (by omega)).1
    have hb2 : weekN pc H (wksN pc H T j) 25 ≤ H 0 := (rS_wks (p := pc) hr hrT (j + 1) (by omega)).1
    have hn20 := hr.1.2
    refine pE_iload_n dX12_rest_6 rfl rfl ?_
    refine pE_bipush (v := nI 60) dX12_rest_7 rfl ?_
    refine pE_icmp_gt (tgt := 43) dX12_rest_9 (by decide) (fun h9 => ?_) (fun h9 => ?_)
    · have g9 := nq_lt (by omega) (by omega) h9
      refine pE_iconst (v := -1) dX12_rest_43 rfl ?_
      refine pE_iret dX12_rest_44 rfl rfl ?_
      exact h0 I1 hx (fun i hi => hne i (by omega))
    · have g9 := nq_nlt (by omega) (by omega) h9
      refine pE_aload_n dX12_rest_12 rfl rfl ?_
      refine pE_getR dX12_rest_13 flX12_88 rfl (by first | assumption | rfl) (by first | assumption | rfl) ?_
      refine pE_bipush (v := nI 25) dX12_rest_16 rfl ?_
      refine pE_ialoadN dX12_rest_18 (by first | assumption | rfl) (by first | assumption | omega) (by omega) ?_
      rw [hT1 25 (by omega)]
      refine pE_istore_n (lc' := [_, _, some (.int _)]) dX12_rest_19 rfl (Nat.le_of_ble_eq_true rfl) rfl rfl ?_
      refine pE_aload_n dX12_rest_20 rfl rfl ?_
      refine pE_callV (d' := 4) (as := []) dX12_rest_21 lkX12_417 (cwX12_goWeek _ _) ivX12_goWeek ⟨_, rfl, rfl⟩ (by first | assumption | rfl) rfl rfl (Nat.le_of_ble_eq_true rfl) (by decide) pKK ?_
      refine M_X12_goWeek (hH.sm hx) hr hT1 (hF.sm hx) hw hpc (rS_wks hr hrT j (by omega)) (fun I2 hx2 hT2 => ?_)
      refine pE_aload_n dX12_rest_24 rfl rfl ?_
      refine pE_getR dX12_rest_25 flX12_88 rfl (by first | assumption | rfl) (by first | assumption | rfl) ?_
      refine pE_bipush (v := nI 25) dX12_rest_28 rfl ?_
      refine pE_ialoadN dX12_rest_30 (by first | assumption | rfl) (by first | assumption | omega) (by omega) ?_
      rw [hT2 25 (by omega)]
      refine pE_iload_n dX12_rest_31 rfl rfl ?_
      refine pE_icmp_ne (tgt := 37) dX12_rest_32 (by decide) (fun h32 => ?_) (fun h32 => ?_)
      · have g32 := nq_ne (by omega) (by omega) h32
        refine pE_iincN (c0 := 1) (lc' := [_, some (.int _), _]) dX12_rest_37 rfl rfl rfl rfl ?_
        refine pE_goto (tgt := 6) dX12_rest_40 (by decide) ?_
        exact ih (j + 1) I2 _ (by omega) (by omega) (hx.tr hx2) hT2 (fun i hi => (Nat.lt_or_ge i j).elim (fun h => hne i h) (fun h => by rw [show i = j by omega]; exact g32))
      · have g32 := nq_eq (by omega) (by omega) h32
        refine pE_iload_n dX12_rest_35 rfl rfl ?_
        refine pE_iret dX12_rest_36 rfl rfl ?_
        exact hq I2 (hx.tr hx2) j (by omega) hne g32
set_option maxHeartbeats 4000000 in
set_option maxRecDepth 100000 in
theorem M_X12_rest {l : Launch} {X : pX} {t g : Nat} {I : pHI} {J : pHJ} {Q : pQ} {H T : pN} {p pc : pP} (hH : mH H I) (hr : rH H) (hS : mS 90 T I) (hrT : rS 999 H T) (hF : mF 1 p I) (hw : p = [] ∨ wfp p 0) (hpc : fR 1 p pc) (hq : ∀ I1, sm I I1 → ∀ m, m ≤ 60 → (∀ i, i < m → wksN pc H T (i + 1) 25 ≠ wksN pc H T i 25) → wksN pc H T (m + 1) 25 = wksN pc H T m 25 → Q (some (.int (nI m))) I1 J (pR t g)) (h0 : ∀ I1, sm I I1 → (∀ i, i ≤ 60 → wksN pc H T (i + 1) 25 ≠ wksN pc H T i 25) → Q (some (.int (-1))) I1 J (pR t g)) : pM l X yX12_rest mX12_rest 5 [.ref 67] pK pK I J (pR t g) Q := by
  refine pM_of rfl (fun h => by cases h) rfl pKM (Nat.le_of_ble_eq_true rfl) ?_
  refine pE_aload_n dX12_rest_0 rfl rfl ?_
  refine pE_callV (d' := 0) (as := []) dX12_rest_1 lkX12_394 (cwX12_load _ _) ivX12_load ⟨_, rfl, rfl⟩ (by first | assumption | rfl) rfl rfl (Nat.le_of_ble_eq_true rfl) (by decide) pKK ?_
  refine M_X12_load ?_
  refine pE_iconst (v := nI 0) dX12_rest_4 rfl ?_
  refine pE_istore_n (lc' := [_, some (.int _), _]) dX12_rest_5 rfl (Nat.le_of_ble_eq_true rfl) rfl rfl ?_
  exact L_X12_rest hH hr hS hrT hF hw hpc hq h0 62 0 _ _ (by omega) (by omega) sm.load hS.load (fun i hi => absurd hi (Nat.not_lt_zero _))
set_option maxHeartbeats 4000000 in
set_option maxRecDepth 100000 in
theorem M_X12_pull {l : Launch} {X : pX} {t g : Nat} {I : pHI} {J : pHJ} {Q : pQ} {H T : pN} {p pc : pP} (hH : mH H I) (hr : rH H) (hS : mS 90 T I) (hrT : rS 999 H T) (hF : mF 1 p I) (hw : p = [] ∨ wfp p 0) (hpc : fR 1 p pc) (hq : ∀ I1, sm I I1 → Q (some (.int (pullV pc H T (T 24)))) I1 J (pR t g)) : pM l X yX12_pull mX12_pull 4 [.ref 67] pK pK I J (pR t g) Q := by
  refine pM_of rfl (fun h => by cases h) rfl pKM (Nat.le_of_ble_eq_true rfl) ?_
  refine pE_aload_n dX12_pull_0 rfl rfl ?_
  refine pE_callV (d' := 0) (as := []) dX12_pull_1 lkX12_394 (cwX12_load _ _) ivX12_load ⟨_, rfl, rfl⟩ (by first | assumption | rfl) rfl rfl (Nat.le_of_ble_eq_true rfl) (by decide) pKK ?_
  refine M_X12_load ?_
  refine pE_aload_n dX12_pull_4 rfl rfl ?_
  refine pE_callV (d' := 3) (as := []) dX12_pull_5 lkX12_391 (cwX12_pullHere _ _) ivX12_pullHere ⟨_, rfl, rfl⟩ (by first | assumption | rfl) rfl rfl (Nat.le_of_ble_eq_true rfl) (by decide) pKK ?_
  refine M_X12_pullHere (hH.sm sm.load) hr (hF.sm sm.load) hw hS.load (fun I1 hb => ?_)
  refine pE_iret dX12_pull_8 rfl rfl ?_
  rw [fr_pull hpc]
  exact hq _ (sm.load.tr hb.sm)
set_option maxHeartbeats 4000000 in
set_option maxRecDepth 100000 in
theorem L_X12_lever {l : Launch} {X : pX} {t g : Nat} {I : pHI} {J : pHJ} {Q : pQ} {H T : pN} {p pc : pP} (hH : mH H I) (hr : rH H) (hS : mS 90 T I) (hrT : rS 999 H T) (hF : mF 1 p I) (hw : p = [] ∨ wfp p 0) (hpc : fR 1 p pc) (hq : ∀ I1, sm I I1 → ∀ m, m ≤ 99 → (∀ i, i < m → ¬ T 25 < liftN pc H T (T 24 + i)) → T 25 < liftN pc H T (T 24 + m) → Q (some (.int (nI m))) I1 J (pR t g)) (h0 : ∀ I1, sm I I1 → (∀ i, i ≤ 99 → ¬ T 25 < liftN pc H T (T 24 + i)) → Q (some (.int (-1))) I1 J (pR t g)) : ∀ (n j : Nat) (I1 : pHI), 100 - j < n → j ≤ 100 → sm I I1 → (∀ i, i < j → ¬ T 25 < liftN pc H T (T 24 + i)) → pE l X mX12_lever 5 pK 2 [some (.ref 67), some (.int (nI j))] [] pK I1 J (pR t g) Q := by
  intro n
  induction n with
  | zero => intro j I1 hn hj; exact absurd hn (Nat.not_lt_zero _)
  | succ n ih =>
    intro j I1 hn hj hx hne
    have hb1 := hrT.1
    have hn20 := hr.1.2
    have hb2 : liftN pc H T (T 24 + j) ≤ H 0 := clp_le _ _
    have hS1 := hS.sm90 hx
    refine pE_iload_n dX12_lever_2 rfl rfl ?_
    refine pE_bipush (v := nI 99) dX12_lever_3 rfl ?_
    refine pE_icmp_gt (tgt := 52) dX12_lever_5 (by decide) (fun h5 => ?_) (fun h5 => ?_)
    · have g5 := nq_lt (by omega) (by omega) h5
      refine pE_iconst (v := -1) dX12_lever_52 rfl ?_
      refine pE_iret dX12_lever_53 rfl rfl ?_
      exact h0 I1 hx (fun i hi => hne i (by omega))
    · have g5 := nq_nlt (by omega) (by omega) h5
      refine pE_aload_n dX12_lever_8 rfl rfl ?_
      refine pE_callV (d' := 0) (as := []) dX12_lever_9 lkX12_394 (cwX12_load _ _) ivX12_load ⟨_, rfl, rfl⟩ (by first | assumption | rfl) rfl rfl (Nat.le_of_ble_eq_true rfl) (by decide) pKK ?_
      refine M_X12_load ?_
      refine pE_aload_n dX12_lever_12 rfl rfl ?_
      refine pE_getR dX12_lever_13 flX12_88 rfl (by first | assumption | rfl) (by first | assumption | rfl) ?_
      refine pE_bipush (v := nI 24) dX12_lever_16 rfl ?_
      refine pE_dup2 dX12_lever_18 ?_
      refine pE_ialoadN dX12_lever_19 (by first | assumption | rfl) (by first | assumption | omega) (by omega) ?_
      rw [hS1.load 24 (by omega)]
      refine pE_iload_n dX12_lever_20 rfl rfl ?_
      refine pE_iaddN dX12_lever_21 ?_
      refine pE_iastoreN dX12_lever_22 (by first | assumption | rfl) (by first | assumption | omega) (by omega) ?_
      refine pE_aload_n dX12_lever_23 rfl rfl ?_
      refine pE_callV (d' := 4) (as := []) dX12_lever_24 lkX12_417 (cwX12_goWeek _ _) ivX12_goWeek ⟨_, rfl, rfl⟩ (by first | assumption | rfl) rfl rfl (Nat.le_of_ble_eq_true rfl) (by decide) pKK ?_
      refine M_X12_goWeek ((hH.sm hx).sm sm.load.pu) hr (hS1.load.pu (k := 24) (v := T 24 + j)) ((hF.sm hx).sm sm.load.pu) hw hpc (rS_up24 hrT) (fun I2 hx2 hT2 => ?_)
      refine pE_aload_n dX12_lever_27 rfl rfl ?_
      refine pE_getR dX12_lever_28 flX12_88 rfl (by first | assumption | rfl) (by first | assumption | rfl) ?_
      refine pE_bipush (v := nI 25) dX12_lever_31 rfl ?_
      refine pE_ialoadN dX12_lever_33 (by first | assumption | rfl) (by first | assumption | omega) (by omega) ?_
      rw [(by rw [hT2 25 (by omega), week25 hr.2.1]; rfl : I2 91 25 = nI (liftN pc H T (T 24 + j)))]
      refine pE_aload_n dX12_lever_34 rfl rfl ?_
      refine pE_getR dX12_lever_35 flX12_85 rfl (by first | assumption | rfl) (by first | assumption | rfl) ?_
      refine pE_bipush (v := nI 25) dX12_lever_38 rfl ?_
      refine pE_ialoadN dX12_lever_40 (by first | assumption | rfl) (by first | assumption | omega) (by omega) ?_
      rw [(hS1.sm90 (sm.load.pu.tr hx2)) 25 (by omega)]
      refine pE_icmp_le (tgt := 46) dX12_lever_41 (by decide) (fun h41 => ?_) (fun h41 => ?_)
      · have g41 := nq_le (by omega) (by omega) h41
        refine pE_iincN (c0 := 1) (lc' := [_, some (.int _)]) dX12_lever_46 rfl rfl rfl rfl ?_
        refine pE_goto (tgt := 2) dX12_lever_49 (by decide) ?_
        exact ih (j + 1) I2 (by omega) (by omega) (hx.tr (sm.load.pu.tr hx2)) (fun i hi => (Nat.lt_or_ge i j).elim (fun h => hne i h) (fun h => by rw [show i = j by omega]; omega))
      · have g41 := nq_nle (by omega) (by omega) h41
        refine pE_iload_n dX12_lever_44 rfl rfl ?_
        refine pE_iret dX12_lever_45 rfl rfl ?_
        exact hq I2 (hx.tr (sm.load.pu.tr hx2)) j (by omega) hne (by omega)
set_option maxHeartbeats 4000000 in
set_option maxRecDepth 100000 in
theorem M_X12_lever {l : Launch} {X : pX} {t g : Nat} {I : pHI} {J : pHJ} {Q : pQ} {H T : pN} {p pc : pP} (hH : mH H I) (hr : rH H) (hS : mS 90 T I) (hrT : rS 999 H T) (hF : mF 1 p I) (hw : p = [] ∨ wfp p 0) (hpc : fR 1 p pc) (hq : ∀ I1, sm I I1 → ∀ m, m ≤ 99 → (∀ i, i < m → ¬ T 25 < liftN pc H T (T 24 + i)) → T 25 < liftN pc H T (T 24 + m) → Q (some (.int (nI m))) I1 J (pR t g)) (h0 : ∀ I1, sm I I1 → (∀ i, i ≤ 99 → ¬ T 25 < liftN pc H T (T 24 + i)) → Q (some (.int (-1))) I1 J (pR t g)) : pM l X yX12_lever mX12_lever 5 [.ref 67] pK pK I J (pR t g) Q := by
  refine pM_of rfl (fun h => by cases h) rfl pKM (Nat.le_of_ble_eq_true rfl) ?_
  refine pE_iconst (v := nI 0) dX12_lever_0 rfl ?_
  refine pE_istore_n (lc' := [_, some (.int _)]) dX12_lever_1 rfl (Nat.le_of_ble_eq_true rfl) rfl rfl ?_
  exact L_X12_lever hH hr hS hrT hF hw hpc hq h0 101 0 I (by omega) (by omega) sm.rf (fun i hi => absurd hi (Nat.not_lt_zero _))
