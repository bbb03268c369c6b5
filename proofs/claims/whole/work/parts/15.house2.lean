set_option maxHeartbeats 4000000 in
set_option maxRecDepth 100000 in
theorem M_X2_canBeClimbed {l : Launch} {X : pX} {t g : Nat} {I : pHI} {J : pHJ} {Q : pQ} {o : Nat} {x : Int32} {H : pN} (ho : isH o) (hn : I o 0 = nI (H 0)) (h8 : H 0 ≤ 20) (h1 : ∀ s, x = nI s → 1 ≤ s → s ≤ H 0 → Q (some (.int (nI 1))) I J (pR t g)) (h0 : (∀ s, 1 ≤ s → s ≤ H 0 → x ≠ nI s) → Q (some (.int (nI 0))) I J (pR t g)) : pM l X yX2_canBeClimbed mX2_canBeClimbed 0 [.ref o, .int x] pK pK I J (pR t g) Q := by
  obtain ⟨fHFho0, fHFho1, fHFho2, fHFho3, fHFho4, fHFho5, fHFho6, fHFho7, fHFho8, fHFho9, fHFho10, fHFho11, fHFho12, fHFho13, fHFho14, fHFho15, fHFho16, fHFho17, fHFho18, fHFho19, fHFho20, fHFho21, fHFho22, fHFho23, fHFho24, fHFho25, fHFho26⟩ := HF t g ho
  refine pM_of rfl (fun h => by cases h) rfl pKM (Nat.le_of_ble_eq_true rfl) ?_
  rcases nI_or x with hx | ⟨j, hj, rfl⟩
  · refine pE_iload_n dX2_canBeClimbed_0 rfl rfl ?_
    refine pE_iconst (v := nI 1) dX2_canBeClimbed_1 rfl ?_
    refine pE_icmp_lt (tgt := 17) dX2_canBeClimbed_2 (by decide) (fun h2 => ?_) (fun h2 => ?_)
    · refine pE_iconst (v := nI 0) dX2_canBeClimbed_17 rfl ?_
      refine pE_zret dX2_canBeClimbed_18 rfl (by first | exact Or.inl nI_0 | exact Or.inr nI_1' | assumption) rfl ?_
      exact h0 (fun s h1 h2 e => by rw [e] at hx; exact absurd hx (nI_pos (by omega)))
    · exact absurd (Int32.lt_trans hx (by decide +kernel : (0 : Int32) < nI 1)) h2
  · refine pE_iload_n dX2_canBeClimbed_0 rfl rfl ?_
    refine pE_iconst (v := nI 1) dX2_canBeClimbed_1 rfl ?_
    refine pE_icmp_lt (tgt := 17) dX2_canBeClimbed_2 (by decide) (fun h2 => ?_) (fun h2 => ?_)
    · have g2 := nq_lt (by omega) (by omega) h2
      refine pE_iconst (v := nI 0) dX2_canBeClimbed_17 rfl ?_
      refine pE_zret dX2_canBeClimbed_18 rfl (by first | exact Or.inl nI_0 | exact Or.inr nI_1' | assumption) rfl ?_
      first | exact h1 j rfl (by omega) (by omega) | exact h0 (fun s h1 h2 e => by have := nq_eq hj (by omega) e; omega)
    · have g2 := nq_nlt (by omega) (by omega) h2
      refine pE_iload_n dX2_canBeClimbed_5 rfl rfl ?_
      refine pE_aload_n dX2_canBeClimbed_6 rfl rfl ?_
      refine pE_getI dX2_canBeClimbed_7 flX2_9 rfl (Or.inl rfl) (by first | assumption | rfl) ?_
      rw [hn]
      refine pE_icmp_gt (tgt := 17) dX2_canBeClimbed_10 (by decide) (fun h10 => ?_) (fun h10 => ?_)
      · have g10 := nq_lt (by omega) (by omega) h10
        refine pE_iconst (v := nI 0) dX2_canBeClimbed_17 rfl ?_
        refine pE_zret dX2_canBeClimbed_18 rfl (by first | exact Or.inl nI_0 | exact Or.inr nI_1' | assumption) rfl ?_
        first | exact h1 j rfl (by omega) (by omega) | exact h0 (fun s h1 h2 e => by have := nq_eq hj (by omega) e; omega)
      · have g10 := nq_nlt (by omega) (by omega) h10
        refine pE_iconst (v := nI 1) dX2_canBeClimbed_13 rfl ?_
        refine pE_goto (tgt := 18) dX2_canBeClimbed_14 (by decide) ?_
        refine pE_zret dX2_canBeClimbed_18 rfl (by first | exact Or.inl nI_0 | exact Or.inr nI_1' | assumption) rfl ?_
        first | exact h1 j rfl (by omega) (by omega) | exact h0 (fun s h1 h2 e => by have := nq_eq hj (by omega) e; omega)
set_option maxHeartbeats 4000000 in
set_option maxRecDepth 100000 in
theorem M_X2_hasStorey {l : Launch} {X : pX} {t g : Nat} {I : pHI} {J : pHJ} {Q : pQ} {o : Nat} {x : Int32} {H : pN} (ho : isH o) (hn : I o 0 = nI (H 0)) (h8 : H 0 ≤ 20) (h1 : ∀ s, x = nI s → s ≤ H 0 → Q (some (.int (nI 1))) I J (pR t g)) (h0 : (∀ s, s ≤ H 0 → x ≠ nI s) → Q (some (.int (nI 0))) I J (pR t g)) : pM l X yX2_hasStorey mX2_hasStorey 0 [.ref o, .int x] pK pK I J (pR t g) Q := by
  obtain ⟨fHFho0, fHFho1, fHFho2, fHFho3, fHFho4, fHFho5, fHFho6, fHFho7, fHFho8, fHFho9, fHFho10, fHFho11, fHFho12, fHFho13, fHFho14, fHFho15, fHFho16, fHFho17, fHFho18, fHFho19, fHFho20, fHFho21, fHFho22, fHFho23, fHFho24, fHFho25, fHFho26⟩ := HF t g ho
  refine pM_of rfl (fun h => by cases h) rfl pKM (Nat.le_of_ble_eq_true rfl) ?_
  rcases nI_or x with hx | ⟨j, hj, rfl⟩
  · refine pE_iload_n dX2_hasStorey_0 rfl rfl ?_
    refine pE_if_lt (tgt := 16) dX2_hasStorey_1 (by decide) (fun h1' => ?_) (fun h1' => ?_)
    · refine pE_iconst (v := nI 0) dX2_hasStorey_16 rfl ?_
      refine pE_zret dX2_hasStorey_17 rfl (by first | exact Or.inl nI_0 | exact Or.inr nI_1' | assumption) rfl ?_
      exact h0 (fun s h1 e => by rw [e] at hx; exact absurd hx (nI_pos (by omega)))
    · exact absurd hx h1'
  · refine pE_iload_n dX2_hasStorey_0 rfl rfl ?_
    refine pE_if_lt (tgt := 16) dX2_hasStorey_1 (by decide) (fun h1' => ?_) (fun h1' => ?_)
    · exact absurd h1' (nI_pos (by omega))
    · refine pE_iload_n dX2_hasStorey_4 rfl rfl ?_
      refine pE_aload_n dX2_hasStorey_5 rfl rfl ?_
      refine pE_getI dX2_hasStorey_6 flX2_9 rfl (Or.inl rfl) (by first | assumption | rfl) ?_
      rw [hn]
      refine pE_icmp_gt (tgt := 16) dX2_hasStorey_9 (by decide) (fun h9 => ?_) (fun h9 => ?_)
      · have g9 := nq_lt (by omega) (by omega) h9
        refine pE_iconst (v := nI 0) dX2_hasStorey_16 rfl ?_
        refine pE_zret dX2_hasStorey_17 rfl (by first | exact Or.inl nI_0 | exact Or.inr nI_1' | assumption) rfl ?_
        first | exact h1 j rfl (by omega) | exact h0 (fun s h2 e => by have := nq_eq hj (by omega) e; omega)
      · have g9 := nq_nlt (by omega) (by omega) h9
        refine pE_iconst (v := nI 1) dX2_hasStorey_12 rfl ?_
        refine pE_goto (tgt := 17) dX2_hasStorey_13 (by decide) ?_
        refine pE_zret dX2_hasStorey_17 rfl (by first | exact Or.inl nI_0 | exact Or.inr nI_1' | assumption) rfl ?_
        first | exact h1 j rfl (by omega) | exact h0 (fun s h2 e => by have := nq_eq hj (by omega) e; omega)
set_option maxHeartbeats 4000000 in
set_option maxRecDepth 100000 in
theorem M_X2_heavyOf {l : Launch} {X : pX} {t g : Nat} {I : pHI} {J : pHJ} {Q : pQ} {o : Nat} {x : Int32} {H : pN} (ho : isH o) (hn : I o 2 = nI (H 1)) (h8 : H 1 ≤ 8) (ha : ∀ j, j < 8 → I (o + 3) j = nI (H (24 + j))) (h1 : ∀ j, x = nI j → j < H 1 → Q (some (.int (nI (H (24 + j))))) I J (pR t g)) (h0 : (∀ j, j < H 1 → x ≠ nI j) → Q (some (.int (nI 0))) I J (pR t g)) : pM l X yX2_heavyOf mX2_heavyOf 1 [.ref o, .int x] pK pK I J (pR t g) Q := by
  obtain ⟨fHFho0, fHFho1, fHFho2, fHFho3, fHFho4, fHFho5, fHFho6, fHFho7, fHFho8, fHFho9, fHFho10, fHFho11, fHFho12, fHFho13, fHFho14, fHFho15, fHFho16, fHFho17, fHFho18, fHFho19, fHFho20, fHFho21, fHFho22, fHFho23, fHFho24, fHFho25, fHFho26⟩ := HF t g ho
  refine pM_of rfl (fun h => by cases h) rfl pKM (Nat.le_of_ble_eq_true rfl) ?_
  refine pE_aload_n dX2_heavyOf_0 rfl rfl ?_
  refine pE_iload_n dX2_heavyOf_1 rfl rfl ?_
  refine pE_callV (d' := 0) (as := [_]) dX2_heavyOf_2 lkX2_87 (cwX2_hasTenant _ _) ivX2_hasTenant ⟨_, rfl, rfl⟩ (by first | assumption | rfl) rfl rfl (Nat.le_of_ble_eq_true rfl) (by decide) pKK ?_
  refine M_X2_hasTenant (H := H) ho hn h8 (fun j hj e => ?_) (fun hno => ?_)
  · subst e
    refine pE_if_eq_f (tgt := 17) dX2_heavyOf_5 (by decide) nI_1n0 ?_
    refine pE_aload_n dX2_heavyOf_8 rfl rfl ?_
    refine pE_getR dX2_heavyOf_9 flX2_28 rfl (by first | assumption | rfl) (by first | assumption | rfl) ?_
    refine pE_iload_n dX2_heavyOf_12 rfl rfl ?_
    refine pE_ialoadN dX2_heavyOf_13 (by first | assumption | rfl) (by omega) (by omega) ?_
    refine pE_goto (tgt := 18) dX2_heavyOf_14 (by decide) ?_
    refine pE_iret dX2_heavyOf_18 rfl rfl ?_
    first | (rw [ha j (by omega)]; exact h1 j rfl hj) | exact h0 hno
  · refine pE_if_eq_t (tgt := 17) dX2_heavyOf_5 (by decide) nI_0 ?_
    refine pE_iconst (v := nI 0) dX2_heavyOf_17 rfl ?_
    refine pE_iret dX2_heavyOf_18 rfl rfl ?_
    first | (rw [ha j (by omega)]; exact h1 j rfl hj) | exact h0 hno
set_option maxHeartbeats 4000000 in
set_option maxRecDepth 100000 in
theorem M_X2_countOf {l : Launch} {X : pX} {t g : Nat} {I : pHI} {J : pHJ} {Q : pQ} {o s a hv nt cl : Nat} {T : pN} {p : pP} (ho : isH o) (hs : isS s) (hT : cS s T I) (hF : cF (o + 6) p I) (hw : wfp p 0) (hq : ∀ I1, sb I I1 → Q (some (.int (nI (cntN p T a hv nt cl)))) I1 J (pR t g)) : pM l X yX2_countOf mX2_countOf 2 [.ref o, .ref s, .int (nI a), .int (nI hv), .int (nI nt), .int (nI cl)] pK pK I J (pR t g) Q := by
  obtain ⟨fHFho0, fHFho1, fHFho2, fHFho3, fHFho4, fHFho5, fHFho6, fHFho7, fHFho8, fHFho9, fHFho10, fHFho11, fHFho12, fHFho13, fHFho14, fHFho15, fHFho16, fHFho17, fHFho18, fHFho19, fHFho20, fHFho21, fHFho22, fHFho23, fHFho24, fHFho25, fHFho26⟩ := HF t g ho
  obtain ⟨fSFhs0, fSFhs1, fSFhs2, fSFhs3, fSFhs4, fSFhs5, fSFhs6⟩ := SF t g hs
  refine pM_of rfl (fun h => by cases h) rfl pKM (Nat.le_of_ble_eq_true rfl) ?_
  refine pE_aload_n dX2_countOf_0 rfl rfl ?_
  refine pE_getR dX2_countOf_1 flX2_40 rfl (by first | assumption | rfl) (by first | assumption | rfl) ?_
  refine pE_iload_n dX2_countOf_4 rfl rfl ?_
  refine pE_iload_n dX2_countOf_5 rfl rfl ?_
  refine pE_iload dX2_countOf_6 rfl ?_
  refine pE_aload_n dX2_countOf_8 rfl rfl ?_
  refine pE_getI dX2_countOf_9 flX2_81 rfl (Or.inl rfl) (by first | assumption | rfl) ?_
  rw [hT.2.2.1]
  refine pE_iload dX2_countOf_12 rfl ?_
  refine pE_aload_n dX2_countOf_14 rfl rfl ?_
  refine pE_getI dX2_countOf_15 flX2_78 rfl (Or.inl rfl) (by first | assumption | rfl) ?_
  rw [hT.2.1]
  refine pE_callV (d' := 1) (as := [_, _, _, _, _, _]) dX2_countOf_18 lkX2_107 (cwX1_valueOf _ _) ivX1_valueOf ⟨_, rfl, rfl⟩ (by first | assumption | rfl) rfl rfl (Nat.le_of_ble_eq_true rfl) (by decide) pKK ?_
  refine M_X1_valueOf (x := inp (nI a) (nI hv) (nI nt) T cl) (isF_c ho) hF hw (fun I1 hb => ?_)
  refine pE_istore (lc' := [_, _, _, _, _, _, some (.int _)]) dX2_countOf_21 (Nat.le_of_ble_eq_true rfl) rfl rfl ?_
  refine pE_iconst (v := nI 0) dX2_countOf_23 rfl ?_
  refine pE_sipush (v := nI 999) dX2_countOf_24 rfl ?_
  refine pE_iload dX2_countOf_27 rfl ?_
  refine pE_min dX2_countOf_29 lkX2_111 (by decide) (Nat.le_of_ble_eq_true rfl) ?_
  refine pE_max dX2_countOf_32 lkX2_91 (by decide) (Nat.le_of_ble_eq_true rfl) ?_
  refine pE_iret dX2_countOf_35 rfl rfl ?_
  exact cgQ (clp_cls _ (by omega)) (hq _ hb)
set_option maxHeartbeats 4000000 in
set_option maxRecDepth 100000 in
theorem M_X2_failsNext {l : Launch} {X : pX} {t g : Nat} {I : pHI} {J : pHJ} {Q : pQ} {o s j : Nat} {H T : pN} (ho : isH o) (hs : isS s) (hj : j < 8) (hT : I s 6 = nI (T 27)) (b : T 27 ≤ 999) (hf : I (o + 5) j = nI (H (40 + j))) (bf : H (40 + j) ≤ 100) (h1 : (T 27 * 137 + 71) % 1000 % 100 < H (40 + j) → Q (some (.int (nI 1))) (pu I s 6 (nI ((T 27 * 137 + 71) % 1000))) J (pR t g)) (h0 : ¬ (T 27 * 137 + 71) % 1000 % 100 < H (40 + j) → Q (some (.int (nI 0))) (pu I s 6 (nI ((T 27 * 137 + 71) % 1000))) J (pR t g)) : pM l X yX2_failsNext mX2_failsNext 0 [.ref o, .ref s, .int (nI j)] pK pK I J (pR t g) Q := by
  obtain ⟨fHFho0, fHFho1, fHFho2, fHFho3, fHFho4, fHFho5, fHFho6, fHFho7, fHFho8, fHFho9, fHFho10, fHFho11, fHFho12, fHFho13, fHFho14, fHFho15, fHFho16, fHFho17, fHFho18, fHFho19, fHFho20, fHFho21, fHFho22, fHFho23, fHFho24, fHFho25, fHFho26⟩ := HF t g ho
  obtain ⟨fSFhs0, fSFhs1, fSFhs2, fSFhs3, fSFhs4, fSFhs5, fSFhs6⟩ := SF t g hs
  refine pM_of rfl (fun h => by cases h) rfl pKM (Nat.le_of_ble_eq_true rfl) ?_
  refine pE_aload_n dX2_failsNext_0 rfl rfl ?_
  refine pE_aload_n dX2_failsNext_1 rfl rfl ?_
  refine pE_getI dX2_failsNext_2 flX2_84 rfl (Or.inl rfl) (by first | assumption | rfl) ?_
  rw [hT]
  refine pE_sipush (v := nI 137) dX2_failsNext_5 rfl ?_
  refine pE_imulN dX2_failsNext_8 ?_
  refine pE_bipush (v := nI 71) dX2_failsNext_9 rfl ?_
  refine pE_iaddN dX2_failsNext_11 ?_
  refine pE_sipush (v := nI 1000) dX2_failsNext_12 rfl ?_
  refine pE_iremN dX2_failsNext_15 (by omega) (by omega) (by omega) ?_
  refine pE_putI dX2_failsNext_16 flX2_84 ftX9 fiX9_6 rfl rfl (by first | assumption | rfl) ?_
  refine pE_aload_n dX2_failsNext_19 rfl rfl ?_
  refine pE_getI dX2_failsNext_20 flX2_84 rfl (Or.inl rfl) (by first | assumption | rfl) ?_
  rw [(by rw [pu_at, if_pos ⟨rfl, rfl⟩] : pu I s 6 (nI ((T 27 * 137 + 71) % 1000)) s 6 = nI ((T 27 * 137 + 71) % 1000))]
  refine pE_bipush (v := nI 100) dX2_failsNext_23 rfl ?_
  refine pE_iremN dX2_failsNext_25 (by omega) (by omega) (by omega) ?_
  refine pE_aload_n dX2_failsNext_26 rfl rfl ?_
  refine pE_getR dX2_failsNext_27 flX2_34 rfl (by first | assumption | rfl) (by first | assumption | rfl) ?_
  refine pE_iload_n dX2_failsNext_30 rfl rfl ?_
  refine pE_ialoadN dX2_failsNext_31 (by first | assumption | rfl) (by first | assumption | omega) (by omega) ?_
  rw [(by rw [pu_ne _ _ _ (by rcases ho with rfl | rfl <;> rcases hs with rfl | rfl <;> decide)]; exact hf : pu I s 6 (nI ((T 27 * 137 + 71) % 1000)) (o + 5) j = nI (H (40 + j)))]
  refine pE_icmp_ge (tgt := 39) dX2_failsNext_32 (by decide) (fun h32 => ?_) (fun h32 => ?_)
  · have g32 := nq_le (by omega) (by omega) h32
    refine pE_iconst (v := nI 0) dX2_failsNext_39 rfl ?_
    refine pE_zret dX2_failsNext_40 rfl (by first | exact Or.inl nI_0 | exact Or.inr nI_1' | assumption) rfl ?_
    first | exact h1 (by omega) | exact h0 (by omega)
  · have g32 := nq_nle (by omega) (by omega) h32
    refine pE_iconst (v := nI 1) dX2_failsNext_35 rfl ?_
    refine pE_goto (tgt := 40) dX2_failsNext_36 (by decide) ?_
    refine pE_zret dX2_failsNext_40 rfl (by first | exact Or.inl nI_0 | exact Or.inr nI_1' | assumption) rfl ?_
    first | exact h1 (by omega) | exact h0 (by omega)
set_option maxHeartbeats 4000000 in
set_option maxRecDepth 100000 in
theorem M_X2_walk {l : Launch} {X : pX} {t g : Nat} {I : pHI} {J : pHJ} {Q : pQ} {o s j a hv cnt : Nat} {T : pN} (ho : isH o) (hs : isS s) (hj : j < 8) (hT : cS s T I) (b1 : T (8 + j) ≤ 9999) (b2 : cnt ≤ 999) (b3 : a ≤ 1000) (b4 : hv ≤ 1000) (b5 : brN a hv ≤ T j) (hq : ∀ I1, sx s I I1 → cS s (walkN T j a hv cnt) I1 → Q none I1 J (pR t g)) : pM l X yX2_walk mX2_walk 1 [.ref o, .ref s, .int (nI j), .int (nI a), .int (nI hv), .int (nI cnt)] pK pK I J (pR t g) Q := by
  obtain ⟨fHFho0, fHFho1, fHFho2, fHFho3, fHFho4, fHFho5, fHFho6, fHFho7, fHFho8, fHFho9, fHFho10, fHFho11, fHFho12, fHFho13, fHFho14, fHFho15, fHFho16, fHFho17, fHFho18, fHFho19, fHFho20, fHFho21, fHFho22, fHFho23, fHFho24, fHFho25, fHFho26⟩ := HF t g ho
  obtain ⟨fSFhs0, fSFhs1, fSFhs2, fSFhs3, fSFhs4, fSFhs5, fSFhs6⟩ := SF t g hs
  refine pM_of rfl (fun h => by cases h) rfl pKM (Nat.le_of_ble_eq_true rfl) ?_
  refine pE_aload_n dX2_walk_0 rfl rfl ?_
  refine pE_getR dX2_walk_1 flX2_69 rfl (by first | assumption | rfl) (by first | assumption | rfl) ?_
  refine pE_iload_n dX2_walk_4 rfl rfl ?_
  refine pE_sipush (v := nI 9999) dX2_walk_5 rfl ?_
  refine pE_aload_n dX2_walk_8 rfl rfl ?_
  refine pE_getR dX2_walk_9 flX2_69 rfl (by first | assumption | rfl) (by first | assumption | rfl) ?_
  refine pE_iload_n dX2_walk_12 rfl rfl ?_
  refine pE_ialoadN dX2_walk_13 (by first | assumption | rfl) (by first | assumption | omega) (by omega) ?_
  rw [(hT.2.2.2.2 j hj).2.1]
  refine pE_iload dX2_walk_14 rfl ?_
  refine pE_iaddN dX2_walk_16 ?_
  refine pE_min dX2_walk_17 lkX2_111 (by decide) (Nat.le_of_ble_eq_true rfl) ?_
  rw [nI_min _ _ (by omega) (by omega)]
  refine pE_iastoreN dX2_walk_20 (by first | assumption | rfl) (by first | assumption | omega) (by omega) ?_
  refine pE_aload_n dX2_walk_21 rfl rfl ?_
  refine pE_getR dX2_walk_22 flX2_64 rfl (by first | assumption | rfl) (by first | assumption | rfl) ?_
  refine pE_iload_n dX2_walk_25 rfl rfl ?_
  refine pE_dup2 dX2_walk_26 ?_
  refine pE_ialoadN dX2_walk_27 (by first | assumption | rfl) (by first | assumption | omega) (by omega) ?_
  rw [show pu I (s + 2) j (nI (min 9999 (T (8 + j) + cnt))) (s + 1) j = nI (T j) by rw [pu_ne _ _ _ (by omega)]; exact (hT.2.2.2.2 j hj).1]
  refine pE_aload_n dX2_walk_28 rfl rfl ?_
  refine pE_iload_n dX2_walk_29 rfl rfl ?_
  refine pE_iload dX2_walk_30 rfl ?_
  refine pE_callV (d' := 0) (as := [_, _]) dX2_walk_32 lkX2_104 (cwX2_breathFor _ _) ivX2_breathFor ⟨_, rfl, rfl⟩ (by first | assumption | rfl) rfl rfl (Nat.le_of_ble_eq_true rfl) (by decide) pKK ?_
  refine M_X2_breathFor ho b3 b4 ?_
  refine pE_isub dX2_walk_35 ?_
  rw [nI_subN b5]
  refine pE_iastoreN dX2_walk_36 (by first | assumption | rfl) (by first | assumption | omega) (by omega) ?_
  refine pE_aload_n dX2_walk_37 rfl rfl ?_
  refine pE_dupR dX2_walk_38 ?_
  refine pE_getI dX2_walk_39 flX2_75 rfl (Or.inl rfl) (by first | assumption | rfl) ?_
  rw [((hT.pd (v := min 9999 (T (8 + j) + cnt)) hj).br (v := T j - brN a hv) hj).1]
  rw [show up1 (up1 T (8 + j) (min 9999 (T (8 + j) + cnt))) j (T j - brN a hv) 24 = T 24 by simp only [up1]; rw [if_neg (by omega), if_neg (by omega)]]
  refine pE_iload_n dX2_walk_42 rfl rfl ?_
  refine pE_iaddN dX2_walk_43 ?_
  refine pE_putI dX2_walk_44 flX2_75 ftX9 fiX9_3 rfl rfl (by first | assumption | rfl) ?_
  refine pE_vret dX2_walk_47 rfl rfl ?_
  refine hq _ (((sx.rf.pu (by omega)).pu (by omega)).pu (by omega)) ?_
  have h9 := ((hT.pd (v := min 9999 (T (8 + j) + cnt)) hj).br (v := T j - brN a hv) hj).sc (k := 3) (q := 24) (v := T 24 + a) (Or.inl ⟨rfl, rfl⟩)
  exact h9
set_option maxHeartbeats 4000000 in
set_option maxRecDepth 100000 in
theorem M_X2_payRent {l : Launch} {X : pX} {t g : Nat} {I : pHI} {J : pHJ} {Q : pQ} {o s j : Nat} {H T : pN} (ho : isH o) (hs : isS s) (hj : j < 8) (hT : cS s T I) (hH : I (o + 4) j = nI (H (32 + j))) (b1 : T (8 + j) ≤ 9999) (b2 : T (16 + j) ≤ 100000000) (b3 : H (32 + j) ≤ 999) (hq : ∀ I1, sx s I I1 → cS s (payN H T j) I1 → Q none I1 J (pR t g)) : pM l X yX2_payRent mX2_payRent 1 [.ref o, .ref s, .int (nI j)] pK pK I J (pR t g) Q := by
  obtain ⟨fHFho0, fHFho1, fHFho2, fHFho3, fHFho4, fHFho5, fHFho6, fHFho7, fHFho8, fHFho9, fHFho10, fHFho11, fHFho12, fHFho13, fHFho14, fHFho15, fHFho16, fHFho17, fHFho18, fHFho19, fHFho20, fHFho21, fHFho22, fHFho23, fHFho24, fHFho25, fHFho26⟩ := HF t g ho
  obtain ⟨fSFhs0, fSFhs1, fSFhs2, fSFhs3, fSFhs4, fSFhs5, fSFhs6⟩ := SF t g hs
  refine pM_of rfl (fun h => by cases h) rfl pKM (Nat.le_of_ble_eq_true rfl) ?_
  refine pE_aload_n dX2_payRent_0 rfl rfl ?_
  refine pE_getR dX2_payRent_1 flX2_72 rfl (by first | assumption | rfl) (by first | assumption | rfl) ?_
  refine pE_iload_n dX2_payRent_4 rfl rfl ?_
  refine pE_ialoadN dX2_payRent_5 (by first | assumption | rfl) (by first | assumption | omega) (by omega) ?_
  rw [(hT.2.2.2.2 j hj).2.2]
  refine pE_aload_n dX2_payRent_6 rfl rfl ?_
  refine pE_getR dX2_payRent_7 flX2_31 rfl (by first | assumption | rfl) (by first | assumption | rfl) ?_
  refine pE_iload_n dX2_payRent_10 rfl rfl ?_
  refine pE_ialoadN dX2_payRent_11 (by first | assumption | rfl) (by first | assumption | omega) (by omega) ?_
  rw [hH]
  refine pE_iaddN dX2_payRent_12 ?_
  refine pE_istore_n (lc' := [_, _, _, some (.int _), _]) dX2_payRent_13 rfl (Nat.le_of_ble_eq_true rfl) rfl rfl ?_
  refine pE_iload_n dX2_payRent_14 rfl rfl ?_
  refine pE_aload_n dX2_payRent_15 rfl rfl ?_
  refine pE_getR dX2_payRent_16 flX2_69 rfl (by first | assumption | rfl) (by first | assumption | rfl) ?_
  refine pE_iload_n dX2_payRent_19 rfl rfl ?_
  refine pE_ialoadN dX2_payRent_20 (by first | assumption | rfl) (by first | assumption | omega) (by omega) ?_
  rw [(hT.2.2.2.2 j hj).2.1]
  refine pE_min dX2_payRent_21 lkX2_111 (by decide) (Nat.le_of_ble_eq_true rfl) ?_
  rw [nI_min _ _ (by omega) (by omega)]
  refine pE_istore (lc' := [_, _, _, _, some (.int _)]) dX2_payRent_24 (Nat.le_of_ble_eq_true rfl) rfl rfl ?_
  refine pE_aload_n dX2_payRent_26 rfl rfl ?_
  refine pE_getR dX2_payRent_27 flX2_72 rfl (by first | assumption | rfl) (by first | assumption | rfl) ?_
  refine pE_iload_n dX2_payRent_30 rfl rfl ?_
  refine pE_iload_n dX2_payRent_31 rfl rfl ?_
  refine pE_iload dX2_payRent_32 rfl ?_
  refine pE_isubN dX2_payRent_34 (by omega) ?_
  refine pE_iastoreN dX2_payRent_35 (by first | assumption | rfl) (by first | assumption | omega) (by omega) ?_
  refine pE_aload_n dX2_payRent_36 rfl rfl ?_
  refine pE_getR dX2_payRent_37 flX2_69 rfl (by first | assumption | rfl) (by first | assumption | rfl) ?_
  refine pE_iload_n dX2_payRent_40 rfl rfl ?_
  refine pE_dup2 dX2_payRent_41 ?_
  refine pE_ialoadN dX2_payRent_42 (by first | assumption | rfl) (by first | assumption | omega) (by omega) ?_
  rw [show pu I (s + 3) j (nI (T (16 + j) + H (32 + j) - min (T (16 + j) + H (32 + j)) (T (8 + j)))) (s + 2) j = nI (T (8 + j)) by rw [pu_ne _ _ _ (by omega)]; exact (hT.2.2.2.2 j hj).2.1]
  refine pE_iload dX2_payRent_43 rfl ?_
  refine pE_isub dX2_payRent_45 ?_
  rw [nI_subN (by omega)]
  refine pE_iastoreN dX2_payRent_46 (by first | assumption | rfl) (by first | assumption | omega) (by omega) ?_
  refine pE_vret dX2_payRent_47 rfl rfl ?_
  refine hq _ ((sx.rf.pu (by omega)).pu (by omega)) ?_
  exact (hT.db hj).pd hj
