set_option maxHeartbeats 400000 in
set_option maxRecDepth 100000 in
theorem L_X11_feedOne {l : Launch} {X : pX} {t g : Nat} {I : pHI} {J : pHJ} {Q : pQ} {n : Nat} {B : Nat → Nat} {x : Int32} (hn : n + 4 ≤ 1600) (hq : ∀ I1, (∀ c k, ¬ (c = 0 ∧ k = 1) → c ≠ 1 → I1 c k = I c k) → cTp I1 (n + 4) (apB B n x) → Q none I1 J (pR t g)) : ∀ (m : Nat) (I1 : pHI), m ≤ 4 → (∀ c k, ¬ (c = 0 ∧ k = 1) → c ≠ 1 → I1 c k = I c k) → cTp I1 (n + (4 - m)) (apB B n x) → pE l X mX11_feedOne 0 pK 3 [some (.ref 0), some (.int x), some (.int (nI (8 * m) + -8))] [] pK I1 J (pR t g) Q := by
  intro m
  induction m with
  | zero =>
    intro I1 hm hf hT
    refine pE_iload_n dX11_feedOne_3 rfl rfl ?_
    refine pE_if_lt (tgt := 55) dX11_feedOne_4 (by decide) (fun h4 => ?_) (fun h4 => ?_)
    · refine pE_vret dX11_feedOne_55 rfl rfl ?_
      exact hq _ hf hT
    · exact absurd (by decide : nI (8 * 0) + -8 < 0) h4
  | succ m ih =>
    intro I1 hm hf hT
    rw [dec8 (by omega)]
    obtain ⟨t1, t2, t3⟩ := hT
    refine pE_iload_n dX11_feedOne_3 rfl rfl ?_
    refine pE_if_lt (tgt := 55) dX11_feedOne_4 (by decide) (fun h4 => ?_) (fun h4 => ?_)
    · exact absurd h4 (nI_pos (by omega))
    · refine pE_aload_n dX11_feedOne_7 rfl rfl ?_
      refine pE_getI dX11_feedOne_8 flX11_13 rfl (Or.inl rfl) (by first | assumption | rfl) ?_
      rw [t1]
      refine pE_if_lt (tgt := 49) dX11_feedOne_11 (by decide) (fun h11 => ?_) (fun h11 => ?_)
      · exact absurd h11 (nI_pos (by omega))
      · refine pE_aload_n dX11_feedOne_14 rfl rfl ?_
        refine pE_getI dX11_feedOne_15 flX11_13 rfl (Or.inl rfl) (by first | assumption | rfl) ?_
        rw [t1]
        refine pE_aload_n dX11_feedOne_18 rfl rfl ?_
        refine pE_getR dX11_feedOne_19 flX11_9 rfl (by first | assumption | rfl) (by first | assumption | rfl) ?_
        refine pE_alenN dX11_feedOne_22 (by first | assumption | rfl) (by decide) ?_
        refine pE_icmp_ge (tgt := 49) dX11_feedOne_23 (by decide) (fun h23 => ?_) (fun h23 => ?_)
        · have g23 := nq_le (by omega) (by omega) h23
          omega
        · have g23 := nq_nle (by omega) (by omega) h23
          refine pE_aload_n dX11_feedOne_26 rfl rfl ?_
          refine pE_getR dX11_feedOne_27 flX11_9 rfl (by first | assumption | rfl) (by first | assumption | rfl) ?_
          refine pE_aload_n dX11_feedOne_30 rfl rfl ?_
          refine pE_getI dX11_feedOne_31 flX11_13 rfl (Or.inl rfl) (by first | assumption | rfl) ?_
          rw [t1]
          refine pE_iload_n dX11_feedOne_34 rfl rfl ?_
          refine pE_iload_n dX11_feedOne_35 rfl rfl ?_
          refine pE_iushr dX11_feedOne_36 ?_
          refine pE_i2b dX11_feedOne_37 ?_
          refine pE_bastoreN dX11_feedOne_38 rfl (by omega) (by omega) ?_
          refine pE_aload_n dX11_feedOne_39 rfl rfl ?_
          refine pE_dupR dX11_feedOne_40 ?_
          refine pE_getI dX11_feedOne_41 flX11_13 rfl (Or.inl rfl) (by first | assumption | rfl) ?_
          rw [(show pu I1 1 (n + (4 - (m + 1))) (vp_nar .byte ((x.toUInt32 >>> ((nI (8 * m)).toUInt32 &&& Int32.toUInt32 31)).toInt32).toInt8.toInt32) 0 1 = nI (n + (4 - (m + 1))) by rw [pu_ne _ _ _ (by decide)]; exact t1)]
          refine pE_iconst (v := nI 1) dX11_feedOne_44 rfl ?_
          refine pE_iaddN dX11_feedOne_45 ?_
          refine pE_putI dX11_feedOne_46 flX11_13 ftX11 fiX11_1 rfl rfl (by first | assumption | rfl) ?_
          refine pE_iinc (c0 := -8) (lc' := [_, _, some (.int _)]) dX11_feedOne_49 rfl rfl rfl rfl ?_
          refine pE_goto (tgt := 3) dX11_feedOne_52 (by decide) ?_
          refine ih _ (by omega) (fun c k a b => by rw [pu_at, if_neg a, pu_ne _ _ _ b]; exact hf c k a b) ⟨by rw [pu_at, if_pos ⟨rfl, rfl⟩]; congr 1; omega, by omega, fun i hi => ?_⟩
          rw [pu_ne _ _ _ (by decide), pu_at]
          by_cases e : i = n + (4 - (m + 1))
          · rw [if_pos ⟨rfl, e⟩]
            have e2 : apB B n x i = bV (x >>> (nI (8 * m) &&& 31)) := by
              unfold apB
              rw [if_neg (by omega), show 24 - 8 * (i - n) = 8 * m by omega]
            rw [e2]
            exact ⟨byte_255 x (by omega), bV_lt _⟩
          · rw [if_neg (fun q => e q.2)]
            exact t3 i (by omega)
set_option maxHeartbeats 400000 in
set_option maxRecDepth 100000 in
theorem M_X11_feedOne {l : Launch} {X : pX} {t g : Nat} {I : pHI} {J : pHJ} {Q : pQ} {n : Nat} {B : Nat → Nat} {x : Int32} (hn : n + 4 ≤ 1600) (hT : cTp I n B) (hq : ∀ I1, (∀ c k, ¬ (c = 0 ∧ k = 1) → c ≠ 1 → I1 c k = I c k) → cTp I1 (n + 4) (apB B n x) → Q none I1 J (pR t g)) : pM l X yX11_feedOne mX11_feedOne 0 [.ref 0, .int x] pK pK I J (pR t g) Q := by
  refine pM_of rfl (fun h => by cases h) rfl pKM (Nat.le_of_ble_eq_true rfl) ?_
  refine pE_bipush (v := nI 24) dX11_feedOne_0 rfl ?_
  refine pE_istore_n (lc' := [_, _, some (.int _)]) dX11_feedOne_2 rfl (Nat.le_of_ble_eq_true rfl) rfl rfl ?_
  refine pE_cg (L_X11_feedOne hn hq 4 I (Nat.le_refl _) (fun _ _ _ _ => rfl) ⟨hT.1, by omega, fun i hi => ?_⟩) (by rw [show nI (8 * 4) + -8 = nI 24 by decide +kernel]) rfl rfl rfl rfl
  have e2 : apB B n x i = B i := by unfold apB; rw [if_pos (by omega)]
  rw [e2]
  exact hT.2.2 i (by omega)
set_option maxHeartbeats 400000 in
set_option maxRecDepth 100000 in
theorem L_X12_four {l : Launch} {X : pX} {t g : Nat} {I : pHI} {J : pHJ} {Q : pQ} {n : Nat} {B : Nat → Nat} {x : Int32} (hn : n + 4 ≤ 1600) (hq : ∀ I1, (∀ c k, ¬ (c = 67 ∧ k = 1) → c ≠ 68 → I1 c k = I c k) → mTp I1 (n + 4) (apB B n x) → Q none I1 J (pR t g)) : ∀ (m : Nat) (I1 : pHI), m ≤ 4 → (∀ c k, ¬ (c = 67 ∧ k = 1) → c ≠ 68 → I1 c k = I c k) → mTp I1 (n + (4 - m)) (apB B n x) → pE l X mX12_four 0 pK 3 [some (.ref 67), some (.int x), some (.int (nI (8 * m) + -8))] [] pK I1 J (pR t g) Q := by
  intro m
  induction m with
  | zero =>
    intro I1 hm hf hT
    refine pE_iload_n dX12_four_3 rfl rfl ?_
    refine pE_if_lt (tgt := 39) dX12_four_4 (by decide) (fun h4 => ?_) (fun h4 => ?_)
    · refine pE_vret dX12_four_39 rfl rfl ?_
      exact hq _ hf hT
    · exact absurd (by decide : nI (8 * 0) + -8 < 0) h4
  | succ m ih =>
    intro I1 hm hf hT
    rw [dec8 (by omega)]
    obtain ⟨t1, t2, t3⟩ := hT
    refine pE_iload_n dX12_four_3 rfl rfl ?_
    refine pE_if_lt (tgt := 39) dX12_four_4 (by decide) (fun h4 => ?_) (fun h4 => ?_)
    · exact absurd h4 (nI_pos (by omega))
    · refine pE_aload_n dX12_four_7 rfl rfl ?_
      refine pE_getR dX12_four_8 flX12_7 rfl (by first | assumption | rfl) (by first | assumption | rfl) ?_
      refine pE_aload_n dX12_four_11 rfl rfl ?_
      refine pE_getI dX12_four_12 flX12_142 rfl (Or.inl rfl) (by first | assumption | rfl) ?_
      rw [t1]
      refine pE_iload_n dX12_four_15 rfl rfl ?_
      refine pE_iload_n dX12_four_16 rfl rfl ?_
      refine pE_ishr dX12_four_17 ?_
      refine pE_sipush (v := nI 255) dX12_four_18 rfl ?_
      refine pE_iand dX12_four_21 ?_
      refine pE_iastoreN dX12_four_22 (by first | assumption | rfl) (by first | assumption | omega) (by omega) ?_
      refine pE_aload_n dX12_four_23 rfl rfl ?_
      refine pE_dupR dX12_four_24 ?_
      refine pE_getI dX12_four_25 flX12_142 rfl (Or.inl rfl) (by first | assumption | rfl) ?_
      rw [(show pu I1 68 (n + (4 - (m + 1))) (x >>> (nI (8 * m) &&& 31) &&& nI 255) 67 1 = nI (n + (4 - (m + 1))) by rw [pu_ne _ _ _ (by decide)]; exact t1)]
      refine pE_iconst (v := nI 1) dX12_four_28 rfl ?_
      refine pE_iaddN dX12_four_29 ?_
      refine pE_putI dX12_four_30 flX12_142 ftX12 fiX12_1 rfl rfl (by first | assumption | rfl) ?_
      refine pE_iinc (c0 := -8) (lc' := [_, _, some (.int _)]) dX12_four_33 rfl rfl rfl rfl ?_
      refine pE_goto (tgt := 3) dX12_four_36 (by decide) ?_
      refine ih _ (by omega) (fun c k a b => by rw [pu_at, if_neg a, pu_ne _ _ _ b]; exact hf c k a b) ⟨by rw [pu_at, if_pos ⟨rfl, rfl⟩]; congr 1; omega, by omega, fun i hi => ?_⟩
      rw [pu_ne _ _ _ (by decide), pu_at]
      by_cases e : i = n + (4 - (m + 1))
      · rw [if_pos ⟨rfl, e⟩]
        have e2 : apB B n x i = bV (x >>> (nI (8 * m) &&& 31)) := by
          unfold apB
          rw [if_neg (by omega), show 24 - 8 * (i - n) = 8 * m by omega]
        rw [e2]
        exact ⟨bV_eq _, bV_lt _⟩
      · rw [if_neg (fun q => e q.2)]
        exact t3 i (by omega)
set_option maxHeartbeats 400000 in
set_option maxRecDepth 100000 in
theorem M_X12_four {l : Launch} {X : pX} {t g : Nat} {I : pHI} {J : pHJ} {Q : pQ} {n : Nat} {B : Nat → Nat} {x : Int32} (hn : n + 4 ≤ 1600) (hT : mTp I n B) (hq : ∀ I1, (∀ c k, ¬ (c = 67 ∧ k = 1) → c ≠ 68 → I1 c k = I c k) → mTp I1 (n + 4) (apB B n x) → Q none I1 J (pR t g)) : pM l X yX12_four mX12_four 0 [.ref 67, .int x] pK pK I J (pR t g) Q := by
  refine pM_of rfl (fun h => by cases h) rfl pKM (Nat.le_of_ble_eq_true rfl) ?_
  refine pE_bipush (v := nI 24) dX12_four_0 rfl ?_
  refine pE_istore_n (lc' := [_, _, some (.int _)]) dX12_four_2 rfl (Nat.le_of_ble_eq_true rfl) rfl rfl ?_
  refine pE_cg (L_X12_four hn hq 4 I (Nat.le_refl _) (fun _ _ _ _ => rfl) ⟨hT.1, by omega, fun i hi => ?_⟩) (by rw [show nI (8 * 4) + -8 = nI 24 by decide +kernel]) rfl rfl rfl rfl
  have e2 : apB B n x i = B i := by unfold apB; rw [if_pos (by omega)]
  rw [e2]
  exact hT.2.2 i (by omega)
set_option maxHeartbeats 400000 in
set_option maxRecDepth 100000 in
theorem M_X11_feed {l : Launch} {X : pX} {t g : Nat} {I : pHI} {J : pHJ} {Q : pQ} {n : Nat} {B : Nat → Nat} {x1 x2 x3 x4 x5 : Int32} (hT : cTp I n B) (h1 : n + 20 ≤ 1600 → ∀ I1, (∀ c k, ¬ (c = 0 ∧ k = 1) → c ≠ 1 → I1 c k = I c k) → cTp I1 (n + 20) (apB (apB (apB (apB (apB B n x1) (n + 4) x2) (n + 4 + 4) x3) (n + 4 + 4 + 4) x4) (n + 4 + 4 + 4 + 4) x5) → Q (some (.int (nI (n + 20)))) I1 J (pR t g)) (h0 : 1600 < n + 20 → Q (some (.int (-1))) I J (pR t g)) : pM l X yX11_feed mX11_feed 1 [.ref 0, .int x1, .int x2, .int x3, .int x4, .int x5] pK pK I J (pR t g) Q := by
  have hn := hT.2.1
  refine pM_of rfl (fun h => by cases h) rfl pKM (Nat.le_of_ble_eq_true rfl) ?_
  refine pE_aload_n dX11_feed_0 rfl rfl ?_
  refine pE_getI dX11_feed_1 flX11_13 rfl (Or.inl rfl) (by first | assumption | rfl) ?_
  rw [hT.1]
  refine pE_sipush (v := nI 1580) dX11_feed_4 rfl ?_
  refine pE_icmp_le (tgt := 12) dX11_feed_7 (by decide) (fun h7 => ?_) (fun h7 => ?_)
  · have g7 := nq_le (by omega) (by omega) h7
    refine pE_aload_n dX11_feed_12 rfl rfl ?_
    refine pE_iload_n dX11_feed_13 rfl rfl ?_
    refine pE_callV (d' := 0) (as := [_]) dX11_feed_14 lkX11_95 (cwX11_feedOne _ _) ivX11_feedOne ⟨_, rfl, rfl⟩ (by first | assumption | rfl) rfl rfl (Nat.le_of_ble_eq_true rfl) (by decide) pKK ?_
    refine M_X11_feedOne (by omega) hT (fun I1 f1 t1 => ?_)
    refine pE_aload_n dX11_feed_17 rfl rfl ?_
    refine pE_iload_n dX11_feed_18 rfl rfl ?_
    refine pE_callV (d' := 0) (as := [_]) dX11_feed_19 lkX11_95 (cwX11_feedOne _ _) ivX11_feedOne ⟨_, rfl, rfl⟩ (by first | assumption | rfl) rfl rfl (Nat.le_of_ble_eq_true rfl) (by decide) pKK ?_
    refine M_X11_feedOne (by omega) t1 (fun I2 f2 t2 => ?_)
    refine pE_aload_n dX11_feed_22 rfl rfl ?_
    refine pE_iload_n dX11_feed_23 rfl rfl ?_
    refine pE_callV (d' := 0) (as := [_]) dX11_feed_24 lkX11_95 (cwX11_feedOne _ _) ivX11_feedOne ⟨_, rfl, rfl⟩ (by first | assumption | rfl) rfl rfl (Nat.le_of_ble_eq_true rfl) (by decide) pKK ?_
    refine M_X11_feedOne (by omega) t2 (fun I3 f3 t3 => ?_)
    refine pE_aload_n dX11_feed_27 rfl rfl ?_
    refine pE_iload dX11_feed_28 rfl ?_
    refine pE_callV (d' := 0) (as := [_]) dX11_feed_30 lkX11_95 (cwX11_feedOne _ _) ivX11_feedOne ⟨_, rfl, rfl⟩ (by first | assumption | rfl) rfl rfl (Nat.le_of_ble_eq_true rfl) (by decide) pKK ?_
    refine M_X11_feedOne (by omega) t3 (fun I4 f4 t4 => ?_)
    refine pE_aload_n dX11_feed_33 rfl rfl ?_
    refine pE_iload dX11_feed_34 rfl ?_
    refine pE_callV (d' := 0) (as := [_]) dX11_feed_36 lkX11_95 (cwX11_feedOne _ _) ivX11_feedOne ⟨_, rfl, rfl⟩ (by first | assumption | rfl) rfl rfl (Nat.le_of_ble_eq_true rfl) (by decide) pKK ?_
    refine M_X11_feedOne (by omega) t4 (fun I5 f5 t5 => ?_)
    refine pE_aload_n dX11_feed_39 rfl rfl ?_
    refine pE_getI dX11_feed_40 flX11_13 rfl (Or.inl rfl) (by first | assumption | rfl) ?_
    rw [t5.1]
    refine pE_iret dX11_feed_43 rfl rfl ?_
    exact h1 (by omega) _ (fun c k a b => (f5 c k a b).trans ((f4 c k a b).trans ((f3 c k a b).trans ((f2 c k a b).trans (f1 c k a b))))) t5
  · have g7 := nq_nle (by omega) (by omega) h7
    refine pE_iconst (v := -1) dX11_feed_10 rfl ?_
    refine pE_iret dX11_feed_11 rfl rfl ?_
    exact h0 (by omega)
set_option maxHeartbeats 400000 in
set_option maxRecDepth 100000 in
theorem M_X12_feed {l : Launch} {X : pX} {t g : Nat} {I : pHI} {J : pHJ} {Q : pQ} {n : Nat} {B : Nat → Nat} {x1 x2 x3 x4 x5 : Int32} (hT : mTp I n B) (h1 : n + 20 ≤ 1600 → ∀ I1, (∀ c k, ¬ (c = 67 ∧ k = 1) → c ≠ 68 → I1 c k = I c k) → mTp I1 (n + 20) (apB (apB (apB (apB (apB B n x1) (n + 4) x2) (n + 4 + 4) x3) (n + 4 + 4 + 4) x4) (n + 4 + 4 + 4 + 4) x5) → Q (some (.int (nI (n + 20)))) I1 J (pR t g)) (h0 : 1600 < n + 20 → Q (some (.int (-1))) I J (pR t g)) : pM l X yX12_feed mX12_feed 1 [.ref 67, .int x1, .int x2, .int x3, .int x4, .int x5] pK pK I J (pR t g) Q := by
  have hn := hT.2.1
  refine pM_of rfl (fun h => by cases h) rfl pKM (Nat.le_of_ble_eq_true rfl) ?_
  refine pE_aload_n dX12_feed_0 rfl rfl ?_
  refine pE_getI dX12_feed_1 flX12_142 rfl (Or.inl rfl) (by first | assumption | rfl) ?_
  rw [hT.1]
  refine pE_bipush (v := nI 20) dX12_feed_4 rfl ?_
  refine pE_iaddN dX12_feed_6 ?_
  refine pE_sipush (v := nI 1600) dX12_feed_7 rfl ?_
  refine pE_icmp_le (tgt := 15) dX12_feed_10 (by decide) (fun h10 => ?_) (fun h10 => ?_)
  · have g10 := nq_le (by omega) (by omega) h10
    refine pE_aload_n dX12_feed_15 rfl rfl ?_
    refine pE_iload_n dX12_feed_16 rfl rfl ?_
    refine pE_callV (d' := 0) (as := [_]) dX12_feed_17 lkX12_145 (cwX12_four _ _) ivX12_four ⟨_, rfl, rfl⟩ (by first | assumption | rfl) rfl rfl (Nat.le_of_ble_eq_true rfl) (by decide) pKK ?_
    refine M_X12_four (by omega) hT (fun I1 f1 t1 => ?_)
    refine pE_aload_n dX12_feed_20 rfl rfl ?_
    refine pE_iload_n dX12_feed_21 rfl rfl ?_
    refine pE_callV (d' := 0) (as := [_]) dX12_feed_22 lkX12_145 (cwX12_four _ _) ivX12_four ⟨_, rfl, rfl⟩ (by first | assumption | rfl) rfl rfl (Nat.le_of_ble_eq_true rfl) (by decide) pKK ?_
    refine M_X12_four (by omega) t1 (fun I2 f2 t2 => ?_)
    refine pE_aload_n dX12_feed_25 rfl rfl ?_
    refine pE_iload_n dX12_feed_26 rfl rfl ?_
    refine pE_callV (d' := 0) (as := [_]) dX12_feed_27 lkX12_145 (cwX12_four _ _) ivX12_four ⟨_, rfl, rfl⟩ (by first | assumption | rfl) rfl rfl (Nat.le_of_ble_eq_true rfl) (by decide) pKK ?_
    refine M_X12_four (by omega) t2 (fun I3 f3 t3 => ?_)
    refine pE_aload_n dX12_feed_30 rfl rfl ?_
    refine pE_iload dX12_feed_31 rfl ?_
    refine pE_callV (d' := 0) (as := [_]) dX12_feed_33 lkX12_145 (cwX12_four _ _) ivX12_four ⟨_, rfl, rfl⟩ (by first | assumption | rfl) rfl rfl (Nat.le_of_ble_eq_true rfl) (by decide) pKK ?_
    refine M_X12_four (by omega) t3 (fun I4 f4 t4 => ?_)
    refine pE_aload_n dX12_feed_36 rfl rfl ?_
    refine pE_iload dX12_feed_37 rfl ?_
    refine pE_callV (d' := 0) (as := [_]) dX12_feed_39 lkX12_145 (cwX12_four _ _) ivX12_four ⟨_, rfl, rfl⟩ (by first | assumption | rfl) rfl rfl (Nat.le_of_ble_eq_true rfl) (by decide) pKK ?_
    refine M_X12_four (by omega) t4 (fun I5 f5 t5 => ?_)
    refine pE_aload_n dX12_feed_42 rfl rfl ?_
    refine pE_getI dX12_feed_43 flX12_142 rfl (Or.inl rfl) (by first | assumption | rfl) ?_
    rw [t5.1]
    refine pE_iret dX12_feed_46 rfl rfl ?_
    exact h1 (by omega) _ (fun c k a b => (f5 c k a b).trans ((f4 c k a b).trans ((f3 c k a b).trans ((f2 c k a b).trans (f1 c k a b))))) t5
  · have g10 := nq_nle (by omega) (by omega) h10
    refine pE_iconst (v := -1) dX12_feed_13 rfl ?_
    refine pE_iret dX12_feed_14 rfl rfl ?_
    exact h0 (by omega)
