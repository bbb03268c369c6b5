set_option maxHeartbeats 400000 in
set_option maxRecDepth 100000 in
theorem LI_X7_prepare {l : Launch} {X : pX} {t g : Nat} {I : pHI} {J : pHJ} {Q : pQ} {b0 : Nat} {a : Nat} {H T : pN} {p : pP} (ht : isH t) (hH : cH t H I) (hr : rH H) (hS : cS 33 T I) (hrT : rS 999 H T) (hF : cF (t + 6) p I) (hw : wfp p 0) (ha : a < H 1) (hb0 : b0 < T a) (hq : ∀ I2 y5, sN I I2 → I2 59 0 = nI (T a) → I2 59 1 = nI (lgN H T a) → (∀ s b, 1 ≤ s → s ≤ lgN H T a → b + s ≤ T a → b < b0 + 1 → I2 60 (s * 41 + b) = nI (gC p T s b)) → pE l X mX7_prepare 3 pK 122 [some (.ref 59), some (.ref t), some (.ref 33), some (.int (nI a)), some (.int (nI b0)), some (.int y5)] [] pK I2 J (pR t g) Q) : ∀ (fu : Nat) (j : Nat) (I1 : pHI), lgN H T a - j < fu → (j ≤ lgN H T a) → (sN I I1) → (I1 59 0 = nI (T a)) → (I1 59 1 = nI (lgN H T a)) → ((∀ s b, 1 ≤ s → s ≤ lgN H T a → b + s ≤ T a → b < b0 → I1 60 (s * 41 + b) = nI (gC p T s b))) → (∀ s, 1 ≤ s → s ≤ j → b0 + s ≤ T a → I1 60 (s * 41 + b0) = nI (gC p T s b0)) → pE l X mX7_prepare 3 pK 66 [some (.ref 59), some (.ref t), some (.ref 33), some (.int (nI a)), some (.int (nI b0)), some (.int (nI (j + 1)))] [] pK I1 J (pR t g) Q := by
  obtain ⟨fHFht0, fHFht1, fHFht2, fHFht3, fHFht4, fHFht5, fHFht6, fHFht7, fHFht8, fHFht9, fHFht10, fHFht11, fHFht12, fHFht13, fHFht14, fHFht15, fHFht16, fHFht17, fHFht18, fHFht19, fHFht20, fHFht21, fHFht22, fHFht23, fHFht24, fHFht25, fHFht26⟩ := HF t g ht
  intro fu
  induction fu with
  | zero => intro j I1 hn; exact absurd hn (Nat.not_lt_zero _)
  | succ fu ih =>
    intro j I1 hn hj hx e0 e1 hv hc
    have hn8 := hr.2.1
    have hn20 := hr.1.2
    have hT40 := (hrT.2.2.2.2 a (by omega)).1
    have hlg : lgN H T a ≤ 20 ∧ lgN H T a ≤ H 0 ∧ lgN H T a ≤ T a := by unfold lgN; omega
    have hS1 := hS.sN hx
    have hF1 := hF.sN (isF_c ht) hx
    refine pE_iload dX7_prepare_66 rfl ?_
    refine pE_aload_n dX7_prepare_68 rfl rfl ?_
    refine pE_getI dX7_prepare_69 flX7_15 rfl (Or.inl rfl) (by first | assumption | rfl) ?_
    rw [e1]
    refine pE_icmp_gt (tgt := 122) dX7_prepare_72 (by decide) (fun h72 => ?_) (fun h72 => ?_)
    · have g72 := nq_lt (by omega) (by omega) h72
      refine hq _ _ hx e0 e1 (fun s b h1 h2 h3 h4 => ?_)
      by_cases c : b = b0
      · subst c; exact hc s h1 (by omega) h3
      · exact hv s b h1 h2 h3 (by omega)
    · have g72 := nq_nlt (by omega) (by omega) h72
      refine pE_iload dX7_prepare_75 rfl ?_
      refine pE_iload dX7_prepare_77 rfl ?_
      refine pE_iaddN dX7_prepare_79 ?_
      refine pE_aload_n dX7_prepare_80 rfl rfl ?_
      refine pE_getI dX7_prepare_81 flX7_9 rfl (Or.inl rfl) (by first | assumption | rfl) ?_
      rw [e0]
      refine pE_icmp_gt (tgt := 122) dX7_prepare_84 (by decide) (fun h84 => ?_) (fun h84 => ?_)
      · have g84 := nq_lt (by omega) (by omega) h84
        refine hq _ _ hx e0 e1 (fun s b h1 h2 h3 h4 => ?_)
        by_cases c : b = b0
        · subst c; exact hc s h1 (by omega) h3
        · exact hv s b h1 h2 h3 (by omega)
      · have g84 := nq_nlt (by omega) (by omega) h84
        refine pE_aload_n dX7_prepare_87 rfl rfl ?_
        refine pE_getR dX7_prepare_88 flX7_18 rfl (by first | assumption | rfl) (by first | assumption | rfl) ?_
        refine pE_iload dX7_prepare_91 rfl ?_
        refine pE_bipush (v := nI 41) dX7_prepare_93 rfl ?_
        refine pE_imulN dX7_prepare_95 ?_
        refine pE_iload dX7_prepare_96 rfl ?_
        refine pE_iaddN dX7_prepare_98 ?_
        refine pE_aload_n dX7_prepare_99 rfl rfl ?_
        refine pE_aload_n dX7_prepare_100 rfl rfl ?_
        refine pE_iload dX7_prepare_101 rfl ?_
        refine pE_iconst (v := nI 0) dX7_prepare_103 rfl ?_
        refine pE_iconst (v := nI 0) dX7_prepare_104 rfl ?_
        refine pE_aload_n dX7_prepare_105 rfl rfl ?_
        refine pE_getI dX7_prepare_106 flX7_47 rfl (Or.inl rfl) (by first | assumption | rfl) ?_
        rw [hS1.1]
        refine pE_iload dX7_prepare_109 rfl ?_
        refine pE_iaddN dX7_prepare_111 ?_
        refine pE_callV (d' := 2) (as := [_, _, _, _, _]) dX7_prepare_112 lkX7_50 (cwX2_countOf _ _) ivX2_countOf ⟨_, rfl, rfl⟩ (by first | assumption | rfl) rfl rfl (Nat.le_of_ble_eq_true rfl) (by decide) pKK ?_
        refine M_X2_countOf ht (Or.inl rfl) hS1 hF1 hw (fun I2 hb2 => ?_)
        rw [show cntN p T (j + 1) 0 0 (T 24 + b0) = gC p T (j + 1) b0 from rfl]
        refine pE_iastoreN dX7_prepare_115 (by first | assumption | rfl) (by first | assumption | omega) (by omega) ?_
        refine pE_iincN (c0 := 1) (lc' := [_, _, _, _, _, some (.int _)]) dX7_prepare_116 rfl rfl rfl rfl ?_
        refine pE_goto (tgt := 66) dX7_prepare_119 (by decide) ?_
        refine ih (j + 1) _ (by omega) (by omega) ((hx.tr hb2.sN).p (by decide)) (by rw [pu_ne _ _ _ (by decide), hb2 59 0 (by simp [scF])]; exact e0) (by rw [pu_ne _ _ _ (by decide), hb2 59 1 (by simp [scF])]; exact e1) (fun s b h1 h2 h3 h4 => ?_) (fun s h1 h2 h3 => ?_)
        · rw [pu_at, if_neg (by omega), hb2 60 _ (by simp [scF])]; exact hv s b h1 h2 h3 h4
        · rw [pu_at]
          by_cases c : s = j + 1
          · subst c; rw [if_pos ⟨rfl, rfl⟩]
          · rw [if_neg (by omega), hb2 60 _ (by simp [scF])]; exact hc s h1 (by omega) h3
set_option maxHeartbeats 400000 in
set_option maxRecDepth 100000 in
theorem LF_X7_prepare {l : Launch} {X : pX} {t g : Nat} {I : pHI} {J : pHJ} {Q : pQ} {a : Nat} {H T : pN} {p : pP} {v5 : Option Value} (ht : isH t) (hH : cH t H I) (hr : rH H) (hS : cS 33 T I) (hrT : rS 999 H T) (hF : cF (t + 6) p I) (hw : wfp p 0) (ha : a < H 1) (hq : ∀ I2, sN I I2 → ctI I2 p T (T a) (lgN H T a) → (∀ k, k < 205 → I2 61 k = -1) → Q none I2 J (pR t g)) : ∀ (fu : Nat) (j : Nat) (I1 : pHI), 205 - j < fu → (j ≤ 205) → (sN I I1) → (ctI I1 p T (T a) (lgN H T a)) → (∀ k, k < j → I1 61 k = -1) → pE l X mX7_prepare 3 pK 131 [some (.ref 59), some (.ref t), some (.ref 33), some (.int (nI a)), some (.int (nI j)), v5] [] pK I1 J (pR t g) Q := by
  intro fu
  induction fu with
  | zero => intro j I1 hn; exact absurd hn (Nat.not_lt_zero _)
  | succ fu ih =>
    intro j I1 hn hj hx hc hv
    refine pE_iload dX7_prepare_131 rfl ?_
    refine pE_aload_n dX7_prepare_133 rfl rfl ?_
    refine pE_getR dX7_prepare_134 flX7_22 rfl (by first | assumption | rfl) (by first | assumption | rfl) ?_
    refine pE_alenN dX7_prepare_137 (by first | assumption | rfl) (by decide) ?_
    refine pE_icmp_ge (tgt := 155) dX7_prepare_138 (by decide) (fun h138 => ?_) (fun h138 => ?_)
    · have g138 := nq_le (by omega) (by omega) h138
      refine pE_vret dX7_prepare_155 rfl rfl ?_
      obtain rfl : j = 205 := by omega
      exact hq _ hx hc hv
    · have g138 := nq_nle (by omega) (by omega) h138
      refine pE_aload_n dX7_prepare_141 rfl rfl ?_
      refine pE_getR dX7_prepare_142 flX7_22 rfl (by first | assumption | rfl) (by first | assumption | rfl) ?_
      refine pE_iload dX7_prepare_145 rfl ?_
      refine pE_iconst (v := -1) dX7_prepare_147 rfl ?_
      refine pE_iastoreN dX7_prepare_148 (by first | assumption | rfl) (by first | assumption | omega) (by omega) ?_
      refine pE_iincN (c0 := 1) (lc' := [_, _, _, _, some (.int _), _]) dX7_prepare_149 rfl rfl rfl rfl ?_
      refine pE_goto (tgt := 131) dX7_prepare_152 (by decide) ?_
      refine ih (j + 1) _ (by omega) (by omega) (hx.p (by decide)) hc.p61 (fun k hk => ?_)
      rw [pu_at]
      by_cases c : k = j
      · subst c; rw [if_pos ⟨rfl, rfl⟩]
      · rw [if_neg (fun q => c q.2)]; exact hv k (by omega)
set_option maxHeartbeats 400000 in
set_option maxRecDepth 100000 in
theorem LO_X7_prepare {l : Launch} {X : pX} {t g : Nat} {I : pHI} {J : pHJ} {Q : pQ} {a : Nat} {H T : pN} {p : pP} (ht : isH t) (hH : cH t H I) (hr : rH H) (hS : cS 33 T I) (hrT : rS 999 H T) (hF : cF (t + 6) p I) (hw : wfp p 0) (ha : a < H 1) (hq : ∀ I2, sN I I2 → ctI I2 p T (T a) (lgN H T a) → (∀ k, k < 205 → I2 61 k = -1) → Q none I2 J (pR t g)) : ∀ (fu : Nat) (j : Nat) (v5 : Option Value) (I1 : pHI), T a - j < fu → (j ≤ T a) → (sN I I1) → (I1 59 0 = nI (T a)) → (I1 59 1 = nI (lgN H T a)) → ((∀ s b, 1 ≤ s → s ≤ lgN H T a → b + s ≤ T a → b < j → I1 60 (s * 41 + b) = nI (gC p T s b))) → pE l X mX7_prepare 3 pK 54 [some (.ref 59), some (.ref t), some (.ref 33), some (.int (nI a)), some (.int (nI j)), v5] [] pK I1 J (pR t g) Q := by
  obtain ⟨fHFht0, fHFht1, fHFht2, fHFht3, fHFht4, fHFht5, fHFht6, fHFht7, fHFht8, fHFht9, fHFht10, fHFht11, fHFht12, fHFht13, fHFht14, fHFht15, fHFht16, fHFht17, fHFht18, fHFht19, fHFht20, fHFht21, fHFht22, fHFht23, fHFht24, fHFht25, fHFht26⟩ := HF t g ht
  intro fu
  induction fu with
  | zero => intro j v5 I1 hn; exact absurd hn (Nat.not_lt_zero _)
  | succ fu ih =>
    intro j v5 I1 hn hj hx e0 e1 hv
    have hn8 := hr.2.1
    have hn20 := hr.1.2
    have hT40 := (hrT.2.2.2.2 a (by omega)).1
    have hlg : lgN H T a ≤ 20 ∧ lgN H T a ≤ H 0 ∧ lgN H T a ≤ T a := by unfold lgN; omega
    refine pE_iload dX7_prepare_54 rfl ?_
    refine pE_aload_n dX7_prepare_56 rfl rfl ?_
    refine pE_getI dX7_prepare_57 flX7_9 rfl (Or.inl rfl) (by first | assumption | rfl) ?_
    rw [e0]
    refine pE_icmp_ge (tgt := 128) dX7_prepare_60 (by decide) (fun h60 => ?_) (fun h60 => ?_)
    · have g60 := nq_le (by omega) (by omega) h60
      obtain rfl : j = T a := by omega
      refine pE_iconst (v := nI 0) dX7_prepare_128 rfl ?_
      refine pE_istore (lc' := [_, _, _, _, some (.int _), _]) dX7_prepare_129 (Nat.le_of_ble_eq_true rfl) rfl rfl ?_
      exact LF_X7_prepare ht hH hr hS hrT hF hw ha hq 206 0 I1 (by omega) (by omega) hx ⟨e0, e1, fun s b h1 h2 h3 => hv s b h1 h2 h3 (by omega)⟩ (fun k hk => by omega)
    · have g60 := nq_nle (by omega) (by omega) h60
      refine pE_iconst (v := nI 1) dX7_prepare_63 rfl ?_
      refine pE_istore (lc' := [_, _, _, _, _, some (.int _)]) dX7_prepare_64 (Nat.le_of_ble_eq_true rfl) rfl rfl ?_
      refine LI_X7_prepare ht (hH.sN ht hx) hr (hS.sN hx) hrT (hF.sN (isF_c ht) hx) hw ha (by omega) (fun I2 y5 f2 e2 e3 h2 => ?_) (lgN H T a + 1) 0 I1 (by omega) (by omega) sN.rf e0 e1 hv (fun s h1 h2 => by omega)
      refine pE_iincN (c0 := 1) (lc' := [_, _, _, _, some (.int _), _]) dX7_prepare_122 rfl rfl rfl rfl ?_
      refine pE_goto (tgt := 54) dX7_prepare_125 (by decide) ?_
      exact ih (j + 1) _ I2 (by omega) (by omega) (hx.tr f2) e2 e3 h2
set_option maxHeartbeats 400000 in
set_option maxRecDepth 100000 in
theorem M_X7_prepare {l : Launch} {X : pX} {t g : Nat} {I : pHI} {J : pHJ} {Q : pQ} {a : Nat} {H T : pN} {p : pP} (ht : isH t) (hH : cH t H I) (hr : rH H) (hS : cS 33 T I) (hrT : rS 999 H T) (hF : cF (t + 6) p I) (hw : wfp p 0) (ha : a < H 1) (hq : ∀ I2, sN I I2 → ctI I2 p T (T a) (lgN H T a) → (∀ k, k < 205 → I2 61 k = -1) → Q none I2 J (pR t g)) : pM l X yX7_prepare mX7_prepare 3 [.ref 59, .ref t, .ref 33, .int (nI a)] pK pK I J (pR t g) Q := by
  obtain ⟨fHFht0, fHFht1, fHFht2, fHFht3, fHFht4, fHFht5, fHFht6, fHFht7, fHFht8, fHFht9, fHFht10, fHFht11, fHFht12, fHFht13, fHFht14, fHFht15, fHFht16, fHFht17, fHFht18, fHFht19, fHFht20, fHFht21, fHFht22, fHFht23, fHFht24, fHFht25, fHFht26⟩ := HF t g ht
  have hn8 := hr.2.1
  have hn20 := hr.1.2
  have hT40 := (hrT.2.2.2.2 a (by omega)).1
  have hlg : lgN H T a ≤ 20 ∧ lgN H T a ≤ H 0 ∧ lgN H T a ≤ T a := by unfold lgN; omega
  obtain ⟨s0, s1, s2, s3, s4, s5, s6⟩ := SF t g (show isS 33 from Or.inl rfl)
  refine pM_of rfl (fun h => by cases h) rfl pKM (Nat.le_of_ble_eq_true rfl) ?_
  refine pE_aload_n dX7_prepare_0 rfl rfl ?_
  refine pE_aload_n dX7_prepare_1 rfl rfl ?_
  refine pE_iload_n dX7_prepare_2 rfl rfl ?_
  refine pE_callV (d' := 0) (as := [_]) dX7_prepare_3 lkX7_25 (cwX2_hasTenant _ _) ivX2_hasTenant ⟨_, rfl, rfl⟩ (by first | assumption | rfl) rfl rfl (Nat.le_of_ble_eq_true rfl) (by decide) pKK ?_
  refine M_X2_hasTenant (H := H) ht hH.2.2.1 hr.2.1 (fun a2 ha2 ea => ?_) (fun hno => ?_)
  · refine pE_if_eq_f (tgt := 27) dX7_prepare_6 (by decide) nI_1n0 ?_
    refine pE_iconst (v := nI 0) dX7_prepare_9 rfl ?_
    refine pE_bipush (v := nI 40) dX7_prepare_10 rfl ?_
    refine pE_aload_n dX7_prepare_12 rfl rfl ?_
    refine pE_getR dX7_prepare_13 flX7_31 rfl (by first | assumption | rfl) (by first | assumption | rfl) ?_
    refine pE_iload_n dX7_prepare_16 rfl rfl ?_
    refine pE_ialoadN dX7_prepare_17 (by first | assumption | rfl) (by first | assumption | omega) (by omega) ?_
    rw [(hS.2.2.2.2 a (by omega)).1]
    refine pE_min dX7_prepare_18 lkX7_35 (by decide) (Nat.le_of_ble_eq_true rfl) ?_
    rw [nI_min _ _ (by omega) (by omega)]
    refine pE_max dX7_prepare_21 lkX7_41 (by decide) (Nat.le_of_ble_eq_true rfl) ?_
    rw [nI_max _ _ (by omega) (by omega), show max 0 (min 40 (T a)) = T a by omega]
    refine pE_goto (tgt := 28) dX7_prepare_24 (by decide) ?_
    refine pE_putI dX7_prepare_28 flX7_9 ftX7 fiX7_0 rfl rfl (by first | assumption | rfl) ?_
    refine pE_aload_n dX7_prepare_31 rfl rfl ?_
    refine pE_bipush (v := nI 20) dX7_prepare_32 rfl ?_
    refine pE_aload_n dX7_prepare_34 rfl rfl ?_
    refine pE_getI dX7_prepare_35 flX7_44 rfl (Or.inl rfl) (by first | assumption | rfl) ?_
    rw [(show pu I 59 0 (nI (T a)) t 0 = nI (H 0) by rw [pu_ne _ _ _ (by rcases ht with rfl | rfl <;> decide)]; exact hH.1)]
    refine pE_aload_n dX7_prepare_38 rfl rfl ?_
    refine pE_getI dX7_prepare_39 flX7_9 rfl (Or.inl rfl) (by first | assumption | rfl) ?_
    rw [(show pu I 59 0 (nI (T a)) 59 0 = nI (T a) by rw [pu_at, if_pos ⟨rfl, rfl⟩])]
    refine pE_min dX7_prepare_42 lkX7_35 (by decide) (Nat.le_of_ble_eq_true rfl) ?_
    rw [nI_min _ _ (by omega) (by omega)]
    refine pE_min dX7_prepare_45 lkX7_35 (by decide) (Nat.le_of_ble_eq_true rfl) ?_
    rw [nI_min _ _ (by omega) (by omega), show min 20 (min (H 0) (T a)) = lgN H T a from rfl]
    refine pE_putI dX7_prepare_48 flX7_15 ftX7 fiX7_1 rfl rfl (by first | assumption | rfl) ?_
    refine pE_iconst (v := nI 0) dX7_prepare_51 rfl ?_
    refine pE_istore (lc' := [_, _, _, _, some (.int _), _]) dX7_prepare_52 (Nat.le_of_ble_eq_true rfl) rfl rfl ?_
    exact LO_X7_prepare ht hH hr hS hrT hF hw ha hq (T a + 1) 0 _ _ (by omega) (by omega) ((sN.rf.p (by decide)).p (by decide)) (by simp [pu_at]) (by simp [pu_at]) (fun s b h1 h2 h3 h4 => by omega)
  · exact absurd rfl (hno a ha)
set_option maxHeartbeats 400000 in
set_option maxRecDepth 100000 in
theorem L_X7_mostOfLast {l : Launch} {X : pX} {t g : Nat} {I : pHI} {J : pHJ} {Q : pQ} {rw sum br lg : Nat} {A : Nat → List Nat → Prop} {T : pN} {p : pP} (hc : ctI I p T br lg) (hbr : br ≤ 40) (hlg : lg ≤ 20) (hA : ∀ q, q < sum → mxI I (rw * 41 + q) (A q) (vlL (gC p T) 0)) (hA2 : ∀ q L, A q L → smL L = q) (hA3 : ∀ q L, A q L → okL lg L) (hs : sum ≤ br) (hrw : rw ≤ 4) (hq : ∀ o, isM (exL A sum (lg + 1)) (vlL (gC p T) 0) o → (∀ x, o = some x → x ≤ 39960) → Q (some (.int (oI o))) I J (pR t g)) : ∀ (fu j : Nat) (o : Option Nat) (v5 : Option Value), lg - j < fu → j ≤ lg → isM (exL A sum (j + 1)) (vlL (gC p T) 0) o → pE l X mX7_mostOfLast 1 pK 5 [some (.ref 59), some (.int (nI rw)), some (.int (nI sum)), some (.int (oI o)), some (.int (nI (j + 1))), v5] [] pK I J (pR t g) Q := by
  have hex : ∀ L k, exL A sum k L → okL (max lg k) L ∧ smL L ≤ sum := fun L k ⟨L0, s, h1, h2, h3, h4, h5⟩ => by
    subst h1
    exact ⟨okL_snoc.mpr ⟨fun x hx => by have := hA3 _ _ h5 x hx; omega, by omega⟩, by rw [smL_app, hA2 _ _ h5]; simp only [smL]; omega⟩
  intro fu
  induction fu with
  | zero => intro j o v5 hn; exact absurd hn (Nat.not_lt_zero _)
  | succ fu ih =>
    intro j o v5 hn hj hm
    have hob := isM_le hm (fun L hL => hex L (j + 1) hL) (by omega)
    refine pE_iload dX7_mostOfLast_5 rfl ?_
    refine pE_aload_n dX7_mostOfLast_7 rfl rfl ?_
    refine pE_getI dX7_mostOfLast_8 flX7_15 rfl (Or.inl rfl) (by first | assumption | rfl) ?_
    rw [hc.2.1]
    refine pE_icmp_gt (tgt := 71) dX7_mostOfLast_11 (by decide) (fun h11 => ?_) (fun h11 => ?_)
    · have g11 := nq_lt (by omega) (by omega) h11
      refine pE_iload_n dX7_mostOfLast_71 rfl rfl ?_
      refine pE_iret dX7_mostOfLast_72 rfl rfl ?_
      exact hq o (isM_cg hm (fun L => ex_cut (by omega) (by omega) L)) hob
    · have g11 := nq_nlt (by omega) (by omega) h11
      refine pE_iload dX7_mostOfLast_14 rfl ?_
      refine pE_iload_n dX7_mostOfLast_16 rfl rfl ?_
      refine pE_icmp_gt (tgt := 71) dX7_mostOfLast_17 (by decide) (fun h17 => ?_) (fun h17 => ?_)
      · have g17 := nq_lt (by omega) (by omega) h17
        refine pE_iload_n dX7_mostOfLast_71 rfl rfl ?_
        refine pE_iret dX7_mostOfLast_72 rfl rfl ?_
        exact hq o (isM_cg hm (fun L => ex_cut (by omega) (by omega) L)) hob
      · have g17 := nq_nlt (by omega) (by omega) h17
        refine pE_aload_n dX7_mostOfLast_20 rfl rfl ?_
        refine pE_getR dX7_mostOfLast_21 flX7_22 rfl (by first | assumption | rfl) (by first | assumption | rfl) ?_
        refine pE_iload_n dX7_mostOfLast_24 rfl rfl ?_
        refine pE_bipush (v := nI 41) dX7_mostOfLast_25 rfl ?_
        refine pE_imulN dX7_mostOfLast_27 ?_
        refine pE_iload_n dX7_mostOfLast_28 rfl rfl ?_
        refine pE_iaddN dX7_mostOfLast_29 ?_
        refine pE_iload dX7_mostOfLast_30 rfl ?_
        refine pE_isubN dX7_mostOfLast_32 (by omega) ?_
        obtain ⟨o2, c1, c2, c3⟩ := hA (sum - (j + 1)) (by omega)
        refine pE_ialoadN dX7_mostOfLast_33 rfl (by omega) (by omega) ?_
        rw [show rw * 41 + sum - (j + 1) = rw * 41 + (sum - (j + 1)) by omega, c1]
        cases o2 with
        | none =>
          rw [show oI none = (-1 : Int32) from rfl]
          refine pE_istore (lc' := [_, _, _, _, _, some (.int _)]) dX7_mostOfLast_34 (Nat.le_of_ble_eq_true rfl) rfl rfl ?_
          refine pE_iload dX7_mostOfLast_36 rfl ?_
          refine pE_iconst (v := -1) dX7_mostOfLast_38 rfl ?_
          refine pE_icmp_eq (tgt := 65) dX7_mostOfLast_39 (by decide) (fun h39 => ?_) (fun h39 => ?_)
          · refine pE_iincN (c0 := 1) (lc' := [_, _, _, _, some (.int _), _]) dX7_mostOfLast_65 rfl rfl rfl rfl ?_
            refine pE_goto (tgt := 5) dX7_mostOfLast_68 (by decide) ?_
            exact ih (j + 1) o _ (by omega) (by omega) (ex_skip (by omega) (by omega) hm c2)
          · exact absurd rfl h39
        | some x =>
          have hx3 := c3 x rfl
          have hg9 := gC_le p T (j + 1) (sum - (j + 1))
          rw [show oI (some x) = nI x from rfl]
          refine pE_istore (lc' := [_, _, _, _, _, some (.int _)]) dX7_mostOfLast_34 (Nat.le_of_ble_eq_true rfl) rfl rfl ?_
          refine pE_iload dX7_mostOfLast_36 rfl ?_
          refine pE_iconst (v := -1) dX7_mostOfLast_38 rfl ?_
          refine pE_icmp_eq (tgt := 65) dX7_mostOfLast_39 (by decide) (fun h39 => ?_) (fun h39 => ?_)
          · exact absurd h39 (nI_m1n (by omega))
          · refine pE_iload_n dX7_mostOfLast_42 rfl rfl ?_
            refine pE_iload dX7_mostOfLast_43 rfl ?_
            refine pE_aload_n dX7_mostOfLast_45 rfl rfl ?_
            refine pE_getR dX7_mostOfLast_46 flX7_18 rfl (by first | assumption | rfl) (by first | assumption | rfl) ?_
            refine pE_iload dX7_mostOfLast_49 rfl ?_
            refine pE_bipush (v := nI 41) dX7_mostOfLast_51 rfl ?_
            refine pE_imulN dX7_mostOfLast_53 ?_
            refine pE_iload_n dX7_mostOfLast_54 rfl rfl ?_
            refine pE_iaddN dX7_mostOfLast_55 ?_
            refine pE_iload dX7_mostOfLast_56 rfl ?_
            refine pE_isubN dX7_mostOfLast_58 (by omega) ?_
            refine pE_ialoadN dX7_mostOfLast_59 (by first | assumption | rfl) (by first | assumption | omega) (by omega) ?_
            rw [show (j + 1) * 41 + sum - (j + 1) = (j + 1) * 41 + (sum - (j + 1)) by omega, hc.2.2 (j + 1) (sum - (j + 1)) (by omega) (by omega) (by omega)]
            refine pE_iaddN dX7_mostOfLast_60 ?_
            refine pE_max dX7_mostOfLast_61 lkX7_41 (by decide) (Nat.le_of_ble_eq_true rfl) ?_
            rw [mxO_I (fun x e => by have := hob x e; omega) (by omega)]
            refine pE_istore_n (lc' := [_, _, _, some (.int _), _, _]) dX7_mostOfLast_64 rfl (Nat.le_of_ble_eq_true rfl) rfl rfl ?_
            refine pE_iincN (c0 := 1) (lc' := [_, _, _, _, some (.int _), _]) dX7_mostOfLast_65 rfl rfl rfl rfl ?_
            refine pE_goto (tgt := 5) dX7_mostOfLast_68 (by decide) ?_
            exact ih (j + 1) _ _ (by omega) (by omega) (ex_put (by omega) (by omega) hA2 hm c2)
set_option maxHeartbeats 400000 in
set_option maxRecDepth 100000 in
theorem M_X7_mostOfLast {l : Launch} {X : pX} {t g : Nat} {I : pHI} {J : pHJ} {Q : pQ} {rw sum br lg : Nat} {A : Nat → List Nat → Prop} {T : pN} {p : pP} (hc : ctI I p T br lg) (hbr : br ≤ 40) (hlg : lg ≤ 20) (hA : ∀ q, q < sum → mxI I (rw * 41 + q) (A q) (vlL (gC p T) 0)) (hA2 : ∀ q L, A q L → smL L = q) (hA3 : ∀ q L, A q L → okL lg L) (hs : sum ≤ br) (hrw : rw ≤ 4) (hq : ∀ o, isM (exL A sum (lg + 1)) (vlL (gC p T) 0) o → (∀ x, o = some x → x ≤ 39960) → Q (some (.int (oI o))) I J (pR t g)) : pM l X yX7_mostOfLast mX7_mostOfLast 1 [.ref 59, .int (nI rw), .int (nI sum)] pK pK I J (pR t g) Q := by
  refine pM_of rfl (fun h => by cases h) rfl pKM (Nat.le_of_ble_eq_true rfl) ?_
  refine pE_iconst (v := -1) dX7_mostOfLast_0 rfl ?_
  refine pE_istore_n (lc' := [_, _, _, some (.int _), _, _]) dX7_mostOfLast_1 rfl (Nat.le_of_ble_eq_true rfl) rfl rfl ?_
  refine pE_iconst (v := nI 1) dX7_mostOfLast_2 rfl ?_
  refine pE_istore (lc' := [_, _, _, _, some (.int _), _]) dX7_mostOfLast_3 (Nat.le_of_ble_eq_true rfl) rfl rfl ?_
  exact L_X7_mostOfLast hc hbr hlg hA hA2 hA3 hs hrw hq (lg + 1) 0 none _ (by omega) (by omega) (ex_none _ _ _)
set_option maxHeartbeats 400000 in
set_option maxRecDepth 100000 in
theorem L_X7_mostOfNext {l : Launch} {X : pX} {t g : Nat} {I : pHI} {J : pHJ} {Q : pQ} {mo b sum br lg : Nat} {T : pN} {p : pP} (hc : ctI I p T br lg) (hbr : br ≤ 40) (hlg : lg ≤ 20) (hA : ∀ q, 1 ≤ q → q ≤ sum → mxI I (mo * 41 + q) (bwL lg sum mo q) (vlL (gC p T) q)) (hs : sum ≤ br) (hmo : mo ≤ 3) (hb : b ≤ 40) (hq : ∀ o, isM (bwL lg sum (mo + 1) b) (vlL (gC p T) b) o → (∀ x, o = some x → x ≤ 39960) → Q (some (.int (oI o))) I J (pR t g)) : ∀ (fu j : Nat) (o : Option Nat) (v6 : Option Value), lg - j < fu → j ≤ lg → isM (nxL (bwL lg sum mo) b sum (j + 1)) (vlL (gC p T) b) o → pE l X mX7_mostOfNext 1 pK 6 [some (.ref 59), some (.int (nI mo)), some (.int (nI b)), some (.int (nI sum)), some (.int (oI o)), some (.int (nI (j + 1))), v6] [] pK I J (pR t g) Q := by
  have hex : ∀ L k, nxL (bwL lg sum mo) b sum k L → okL (max lg k) L ∧ smL L ≤ sum := fun L k ⟨s, L0, h1, h2, h3, h4, h5, h6, h7⟩ => by
    subst h1
    exact ⟨okL_cons.mpr ⟨by omega, fun x hx => by have := h6 x hx; omega⟩, by simp only [smL]; omega⟩
  intro fu
  induction fu with
  | zero => intro j o v6 hn; exact absurd hn (Nat.not_lt_zero _)
  | succ fu ih =>
    intro j o v6 hn hj hm
    have hob := isM_le hm (fun L hL => hex L (j + 1) hL) (by omega)
    refine pE_iload dX7_mostOfNext_6 rfl ?_
    refine pE_aload_n dX7_mostOfNext_8 rfl rfl ?_
    refine pE_getI dX7_mostOfNext_9 flX7_15 rfl (Or.inl rfl) (by first | assumption | rfl) ?_
    rw [hc.2.1]
    refine pE_icmp_gt (tgt := 73) dX7_mostOfNext_12 (by decide) (fun h12 => ?_) (fun h12 => ?_)
    · have g12 := nq_lt (by omega) (by omega) h12
      refine pE_iload dX7_mostOfNext_73 rfl ?_
      refine pE_iret dX7_mostOfNext_75 rfl rfl ?_
      exact hq o (isM_cg hm (fun L => (bw_nx L).trans (nx_cut (by omega) (by omega) L))) hob
    · have g12 := nq_nlt (by omega) (by omega) h12
      have hbs : b ≤ sum ∨ sum < b := by omega
      refine pE_iload_n dX7_mostOfNext_15 rfl rfl ?_
      refine pE_iload dX7_mostOfNext_16 rfl ?_
      refine pE_iaddN dX7_mostOfNext_18 ?_
      refine pE_iload_n dX7_mostOfNext_19 rfl rfl ?_
      refine pE_icmp_gt (tgt := 73) dX7_mostOfNext_20 (by decide) (fun h20 => ?_) (fun h20 => ?_)
      · have g20 := nq_lt (by omega) (by omega) h20
        refine pE_iload dX7_mostOfNext_73 rfl ?_
        refine pE_iret dX7_mostOfNext_75 rfl rfl ?_
        exact hq o (isM_cg hm (fun L => (bw_nx L).trans (nx_cut (by omega) (by omega) L))) hob
      · have g20 := nq_nlt (by omega) (by omega) h20
        refine pE_aload_n dX7_mostOfNext_23 rfl rfl ?_
        refine pE_getR dX7_mostOfNext_24 flX7_22 rfl (by first | assumption | rfl) (by first | assumption | rfl) ?_
        refine pE_iload_n dX7_mostOfNext_27 rfl rfl ?_
        refine pE_bipush (v := nI 41) dX7_mostOfNext_28 rfl ?_
        refine pE_imulN dX7_mostOfNext_30 ?_
        refine pE_iload_n dX7_mostOfNext_31 rfl rfl ?_
        refine pE_iaddN dX7_mostOfNext_32 ?_
        refine pE_iload dX7_mostOfNext_33 rfl ?_
        refine pE_iaddN dX7_mostOfNext_35 ?_
        obtain ⟨o2, c1, c2, c3⟩ := hA (b + (j + 1)) (by omega) (by omega)
        refine pE_ialoadN dX7_mostOfNext_36 rfl (by omega) (by omega) ?_
        rw [show mo * 41 + b + (j + 1) = mo * 41 + (b + (j + 1)) by omega, c1]
        cases o2 with
        | none =>
          rw [show oI none = (-1 : Int32) from rfl]
          refine pE_istore (lc' := [_, _, _, _, _, _, some (.int _)]) dX7_mostOfNext_37 (Nat.le_of_ble_eq_true rfl) rfl rfl ?_
          refine pE_iload dX7_mostOfNext_39 rfl ?_
          refine pE_iconst (v := -1) dX7_mostOfNext_41 rfl ?_
          refine pE_icmp_eq (tgt := 67) dX7_mostOfNext_42 (by decide) (fun h42 => ?_) (fun h42 => ?_)
          · refine pE_iincN (c0 := 1) (lc' := [_, _, _, _, _, some (.int _), _]) dX7_mostOfNext_67 rfl rfl rfl rfl ?_
            refine pE_goto (tgt := 6) dX7_mostOfNext_70 (by decide) ?_
            exact ih (j + 1) o _ (by omega) (by omega) (nx_skip (by omega) (by omega) hm c2)
          · exact absurd rfl h42
        | some x =>
          have hx3 := c3 x rfl
          have hg9 := gC_le p T (j + 1) b
          rw [show oI (some x) = nI x from rfl]
          refine pE_istore (lc' := [_, _, _, _, _, _, some (.int _)]) dX7_mostOfNext_37 (Nat.le_of_ble_eq_true rfl) rfl rfl ?_
          refine pE_iload dX7_mostOfNext_39 rfl ?_
          refine pE_iconst (v := -1) dX7_mostOfNext_41 rfl ?_
          refine pE_icmp_eq (tgt := 67) dX7_mostOfNext_42 (by decide) (fun h42 => ?_) (fun h42 => ?_)
          · exact absurd h42 (nI_m1n (by omega))
          · refine pE_iload dX7_mostOfNext_45 rfl ?_
            refine pE_iload dX7_mostOfNext_47 rfl ?_
            refine pE_aload_n dX7_mostOfNext_49 rfl rfl ?_
            refine pE_getR dX7_mostOfNext_50 flX7_18 rfl (by first | assumption | rfl) (by first | assumption | rfl) ?_
            refine pE_iload dX7_mostOfNext_53 rfl ?_
            refine pE_bipush (v := nI 41) dX7_mostOfNext_55 rfl ?_
            refine pE_imulN dX7_mostOfNext_57 ?_
            refine pE_iload_n dX7_mostOfNext_58 rfl rfl ?_
            refine pE_iaddN dX7_mostOfNext_59 ?_
            refine pE_ialoadN dX7_mostOfNext_60 (by first | assumption | rfl) (by first | assumption | omega) (by omega) ?_
            rw [hc.2.2 (j + 1) b (by omega) (by omega) (by omega)]
            refine pE_iaddN dX7_mostOfNext_61 ?_
            refine pE_max dX7_mostOfNext_62 lkX7_41 (by decide) (Nat.le_of_ble_eq_true rfl) ?_
            rw [mxO_I (fun x e => by have := hob x e; omega) (by omega)]
            refine pE_istore (lc' := [_, _, _, _, some (.int _), _, _]) dX7_mostOfNext_65 (Nat.le_of_ble_eq_true rfl) rfl rfl ?_
            refine pE_iincN (c0 := 1) (lc' := [_, _, _, _, _, some (.int _), _]) dX7_mostOfNext_67 rfl rfl rfl rfl ?_
            refine pE_goto (tgt := 6) dX7_mostOfNext_70 (by decide) ?_
            exact ih (j + 1) _ _ (by omega) (by omega) (nx_put (by omega) (by omega) hm c2)
set_option maxHeartbeats 400000 in
set_option maxRecDepth 100000 in
theorem M_X7_mostOfNext {l : Launch} {X : pX} {t g : Nat} {I : pHI} {J : pHJ} {Q : pQ} {mo b sum br lg : Nat} {T : pN} {p : pP} (hc : ctI I p T br lg) (hbr : br ≤ 40) (hlg : lg ≤ 20) (hA : ∀ q, 1 ≤ q → q ≤ sum → mxI I (mo * 41 + q) (bwL lg sum mo q) (vlL (gC p T) q)) (hs : sum ≤ br) (hmo : mo ≤ 3) (hb : b ≤ 40) (hq : ∀ o, isM (bwL lg sum (mo + 1) b) (vlL (gC p T) b) o → (∀ x, o = some x → x ≤ 39960) → Q (some (.int (oI o))) I J (pR t g)) : pM l X yX7_mostOfNext mX7_mostOfNext 1 [.ref 59, .int (nI mo), .int (nI b), .int (nI sum)] pK pK I J (pR t g) Q := by
  refine pM_of rfl (fun h => by cases h) rfl pKM (Nat.le_of_ble_eq_true rfl) ?_
  refine pE_iconst (v := -1) dX7_mostOfNext_0 rfl ?_
  refine pE_istore (lc' := [_, _, _, _, some (.int _), _, _]) dX7_mostOfNext_1 (Nat.le_of_ble_eq_true rfl) rfl rfl ?_
  refine pE_iconst (v := nI 1) dX7_mostOfNext_3 rfl ?_
  refine pE_istore (lc' := [_, _, _, _, _, some (.int _), _]) dX7_mostOfNext_4 (Nat.le_of_ble_eq_true rfl) rfl rfl ?_
  exact L_X7_mostOfNext hc hbr hlg hA hs hmo hb hq (lg + 1) 0 none _ (by omega) (by omega) (nx_none _ _ _ _)
set_option maxHeartbeats 400000 in
set_option maxRecDepth 100000 in
theorem L_X7_firstClimb {l : Launch} {X : pX} {t g : Nat} {I : pHI} {J : pHJ} {Q : pQ} {lk ac : Nat} {mo b sum br lg : Nat} {T : pN} {p : pP} (hc : ctI I p T br lg) (hbr : br ≤ 40) (hlg : lg ≤ 20) (hA : ∀ q, 1 ≤ q → q ≤ sum → mxI I (mo * 41 + q) (bwL lg sum mo q) (vlL (gC p T) q)) (hs : sum ≤ br) (hmo : mo ≤ 3) (hlk : lk ≤ 200000000) (hac : ac ≤ 1000000) (hb : b ≤ 40) (h1 : ∀ s, 1 ≤ s → s ≤ lg → (∃ L0, bwL lg sum mo (b + s) L0 ∧ lk ≤ ac + (gC p T s b + vlL (gC p T) (b + s) L0)) → (∀ s2, 1 ≤ s2 → s2 < s → ∀ L0, bwL lg sum mo (b + s2) L0 → ¬ lk ≤ ac + (gC p T s2 b + vlL (gC p T) (b + s2) L0)) → Q (some (.int (nI s))) I J (pR t g)) (h0 : (∀ s, 1 ≤ s → s ≤ lg → ∀ L0, bwL lg sum mo (b + s) L0 → ¬ lk ≤ ac + (gC p T s b + vlL (gC p T) (b + s) L0)) → Q (some (.int (-1))) I J (pR t g)) : ∀ (fu j : Nat) (v6 : Option Value), lg - j < fu → j ≤ lg → (∀ s, 1 ≤ s → s < j + 1 → ∀ L0, bwL lg sum mo (b + s) L0 → ¬ lk ≤ ac + (gC p T s b + vlL (gC p T) (b + s) L0)) → pE l X mX7_firstClimb 0 pK 3 [some (.ref 59), some (.int (nI mo)), some (.int (nI b)), some (.int (nI sum)), some (.int (nI lk - nI ac)), some (.int (nI (j + 1))), v6] [] pK I J (pR t g) Q := by
  intro fu
  induction fu with
  | zero => intro j v6 hn; exact absurd hn (Nat.not_lt_zero _)
  | succ fu ih =>
    intro j v6 hn hj hm
    refine pE_iload dX7_firstClimb_3 rfl ?_
    refine pE_aload_n dX7_firstClimb_5 rfl rfl ?_
    refine pE_getI dX7_firstClimb_6 flX7_15 rfl (Or.inl rfl) (by first | assumption | rfl) ?_
    rw [hc.2.1]
    refine pE_icmp_gt (tgt := 71) dX7_firstClimb_9 (by decide) (fun h9 => ?_) (fun h9 => ?_)
    · have g9 := nq_lt (by omega) (by omega) h9
      refine pE_iconst (v := -1) dX7_firstClimb_71 rfl ?_
      refine pE_iret dX7_firstClimb_72 rfl rfl ?_
      exact h0 (fun s a1 a2 L0 hL => by
        by_cases c : s < j + 1
        · exact hm s a1 c L0 hL
        · have := hL.2.2; omega)
    · have g9 := nq_nlt (by omega) (by omega) h9
      refine pE_iload_n dX7_firstClimb_12 rfl rfl ?_
      refine pE_iload dX7_firstClimb_13 rfl ?_
      refine pE_iaddN dX7_firstClimb_15 ?_
      refine pE_iload_n dX7_firstClimb_16 rfl rfl ?_
      refine pE_icmp_gt (tgt := 71) dX7_firstClimb_17 (by decide) (fun h17 => ?_) (fun h17 => ?_)
      · have g17 := nq_lt (by omega) (by omega) h17
        refine pE_iconst (v := -1) dX7_firstClimb_71 rfl ?_
        refine pE_iret dX7_firstClimb_72 rfl rfl ?_
        exact h0 (fun s a1 a2 L0 hL => by
          by_cases c : s < j + 1
          · exact hm s a1 c L0 hL
          · have := hL.2.2; omega)
      · have g17 := nq_nlt (by omega) (by omega) h17
        refine pE_aload_n dX7_firstClimb_20 rfl rfl ?_
        refine pE_getR dX7_firstClimb_21 flX7_22 rfl (by first | assumption | rfl) (by first | assumption | rfl) ?_
        refine pE_iload_n dX7_firstClimb_24 rfl rfl ?_
        refine pE_bipush (v := nI 41) dX7_firstClimb_25 rfl ?_
        refine pE_imulN dX7_firstClimb_27 ?_
        refine pE_iload_n dX7_firstClimb_28 rfl rfl ?_
        refine pE_iaddN dX7_firstClimb_29 ?_
        refine pE_iload dX7_firstClimb_30 rfl ?_
        refine pE_iaddN dX7_firstClimb_32 ?_
        obtain ⟨o2, c1, c2, c3⟩ := hA (b + (j + 1)) (by omega) (by omega)
        refine pE_ialoadN dX7_firstClimb_33 rfl (by omega) (by omega) ?_
        rw [show mo * 41 + b + (j + 1) = mo * 41 + (b + (j + 1)) by omega, c1]
        cases o2 with
        | none =>
          rw [show oI none = (-1 : Int32) from rfl]
          refine pE_istore (lc' := [_, _, _, _, _, _, some (.int _)]) dX7_firstClimb_34 (Nat.le_of_ble_eq_true rfl) rfl rfl ?_
          refine pE_iload dX7_firstClimb_36 rfl ?_
          refine pE_iconst (v := -1) dX7_firstClimb_38 rfl ?_
          refine pE_icmp_eq (tgt := 65) dX7_firstClimb_39 (by decide) (fun h39 => ?_) (fun h39 => ?_)
          · refine pE_iincN (c0 := 1) (lc' := [_, _, _, _, _, some (.int _), _]) dX7_firstClimb_65 rfl rfl rfl rfl ?_
            refine pE_goto (tgt := 3) dX7_firstClimb_68 (by decide) ?_
            exact ih (j + 1) _ (by omega) (by omega) (fun s a1 a2 L0 hL => by
              by_cases c : s < j + 1
              · exact hm s a1 c L0 hL
              · obtain rfl : s = j + 1 := by omega
                exact absurd hL (c2 L0))
          · exact absurd rfl h39
        | some x =>
          have hx3 := c3 x rfl
          have hg9 := gC_le p T (j + 1) b
          obtain ⟨⟨L1, b1, b2⟩, b3⟩ := c2
          have hcm := lk_cmp (v := x + gC p T (j + 1) b) (lk := lk) (ac := ac) (by omega) hlk hac
          rw [show oI (some x) = nI x from rfl]
          refine pE_istore (lc' := [_, _, _, _, _, _, some (.int _)]) dX7_firstClimb_34 (Nat.le_of_ble_eq_true rfl) rfl rfl ?_
          refine pE_iload dX7_firstClimb_36 rfl ?_
          refine pE_iconst (v := -1) dX7_firstClimb_38 rfl ?_
          refine pE_icmp_eq (tgt := 65) dX7_firstClimb_39 (by decide) (fun h39 => ?_) (fun h39 => ?_)
          · exact absurd h39 (nI_m1n (by omega))
          · refine pE_iload dX7_firstClimb_42 rfl ?_
            refine pE_aload_n dX7_firstClimb_44 rfl rfl ?_
            refine pE_getR dX7_firstClimb_45 flX7_18 rfl (by first | assumption | rfl) (by first | assumption | rfl) ?_
            refine pE_iload dX7_firstClimb_48 rfl ?_
            refine pE_bipush (v := nI 41) dX7_firstClimb_50 rfl ?_
            refine pE_imulN dX7_firstClimb_52 ?_
            refine pE_iload_n dX7_firstClimb_53 rfl rfl ?_
            refine pE_iaddN dX7_firstClimb_54 ?_
            refine pE_ialoadN dX7_firstClimb_55 (by first | assumption | rfl) (by first | assumption | omega) (by omega) ?_
            rw [hc.2.2 (j + 1) b (by omega) (by omega) (by omega)]
            refine pE_iaddN dX7_firstClimb_56 ?_
            refine pE_iload dX7_firstClimb_57 rfl ?_
            refine pE_icmp_lt (tgt := 65) dX7_firstClimb_59 (by decide) (fun h59 => ?_) (fun h59 => ?_)
            · refine pE_iincN (c0 := 1) (lc' := [_, _, _, _, _, some (.int _), _]) dX7_firstClimb_65 rfl rfl rfl rfl ?_
              refine pE_goto (tgt := 3) dX7_firstClimb_68 (by decide) ?_
              exact ih (j + 1) _ (by omega) (by omega) (fun s a1 a2 L0 hL => by
                by_cases c : s < j + 1
                · exact hm s a1 c L0 hL
                · obtain rfl : s = j + 1 := by omega
                  have h7 := hcm.mp h59
                  have := b3 L0 hL
                  omega)
            · refine pE_iload dX7_firstClimb_62 rfl ?_
              refine pE_iret dX7_firstClimb_64 rfl rfl ?_
              have h7 := mt hcm.mpr h59
              exact h1 (j + 1) (by omega) (by omega) ⟨L1, b1, by omega⟩ hm
set_option maxHeartbeats 400000 in
set_option maxRecDepth 100000 in
theorem M_X7_firstClimb {l : Launch} {X : pX} {t g : Nat} {I : pHI} {J : pHJ} {Q : pQ} {lk ac : Nat} {mo b sum br lg : Nat} {T : pN} {p : pP} (hc : ctI I p T br lg) (hbr : br ≤ 40) (hlg : lg ≤ 20) (hA : ∀ q, 1 ≤ q → q ≤ sum → mxI I (mo * 41 + q) (bwL lg sum mo q) (vlL (gC p T) q)) (hs : sum ≤ br) (hmo : mo ≤ 3) (hlk : lk ≤ 200000000) (hac : ac ≤ 1000000) (hb : b ≤ 40) (h1 : ∀ s, 1 ≤ s → s ≤ lg → (∃ L0, bwL lg sum mo (b + s) L0 ∧ lk ≤ ac + (gC p T s b + vlL (gC p T) (b + s) L0)) → (∀ s2, 1 ≤ s2 → s2 < s → ∀ L0, bwL lg sum mo (b + s2) L0 → ¬ lk ≤ ac + (gC p T s2 b + vlL (gC p T) (b + s2) L0)) → Q (some (.int (nI s))) I J (pR t g)) (h0 : (∀ s, 1 ≤ s → s ≤ lg → ∀ L0, bwL lg sum mo (b + s) L0 → ¬ lk ≤ ac + (gC p T s b + vlL (gC p T) (b + s) L0)) → Q (some (.int (-1))) I J (pR t g)) : pM l X yX7_firstClimb mX7_firstClimb 0 [.ref 59, .int (nI mo), .int (nI b), .int (nI sum), .int (nI lk - nI ac)] pK pK I J (pR t g) Q := by
  refine pM_of rfl (fun h => by cases h) rfl pKM (Nat.le_of_ble_eq_true rfl) ?_
  refine pE_iconst (v := nI 1) dX7_firstClimb_0 rfl ?_
  refine pE_istore (lc' := [_, _, _, _, _, some (.int _), _]) dX7_firstClimb_1 (Nat.le_of_ble_eq_true rfl) rfl rfl ?_
  exact L_X7_firstClimb hc hbr hlg hA hs hmo hlk hac hb h1 h0 (lg + 1) 0 _ (by omega) (by omega) (fun s h1 h2 => by omega)
