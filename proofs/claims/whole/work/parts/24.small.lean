set_option maxHeartbeats 4000000 in
set_option maxRecDepth 100000 in
theorem M_X11_month {l : Launch} {X : pX} {t g : Nat} {I : pHI} {J : pHJ} {Q : pQ} {x : Int32} {H : pN} (ht : isH t) (hH : cH t H I) (hr : rH H) (h1 : ∀ j, j < H 1 → x = nI j → Q (some (.int (nI (30 * H (8 + j) + H (32 + j))))) I J (pR t g)) (h0 : (∀ j, j < H 1 → x ≠ nI j) → Q (some (.int (-1))) I J (pR t g)) : pM l X yX11_month mX11_month 1 [.ref 0, .int x] pK pK I J (pR t g) Q := by
  obtain ⟨fHFht0, fHFht1, fHFht2, fHFht3, fHFht4, fHFht5, fHFht6, fHFht7, fHFht8, fHFht9, fHFht10, fHFht11, fHFht12, fHFht13, fHFht14, fHFht15, fHFht16, fHFht17, fHFht18, fHFht19, fHFht20, fHFht21, fHFht22, fHFht23, fHFht24, fHFht25, fHFht26⟩ := HF t g ht
  have hn8 := hr.2.1
  refine pM_of rfl (fun h => by cases h) rfl pKM (Nat.le_of_ble_eq_true rfl) ?_
  refine pE_aload_n dX11_month_0 rfl rfl ?_
  refine pE_getR dX11_month_1 flX11_29 rfl (by first | assumption | rfl) (by first | assumption | rfl) ?_
  refine pE_iload_n dX11_month_4 rfl rfl ?_
  refine pE_callV (d' := 0) (as := [_]) dX11_month_5 lkX11_119 (cwX2_hasTenant _ _) ivX2_hasTenant ⟨_, rfl, rfl⟩ (by first | assumption | rfl) rfl rfl (Nat.le_of_ble_eq_true rfl) (by decide) pKK ?_
  refine M_X2_hasTenant (H := H) ht hH.2.2.1 hn8 (fun j hj e => ?_) (fun hno => ?_)
  · subst e
    refine pE_if_eq_f (tgt := 22) dX11_month_8 (by decide) nI_1n0 ?_
    refine pE_aload_n dX11_month_11 rfl rfl ?_
    refine pE_getR dX11_month_12 flX11_29 rfl (by first | assumption | rfl) (by first | assumption | rfl) ?_
    refine pE_iload_n dX11_month_15 rfl rfl ?_
    refine pE_callV (d' := 0) (as := [_]) dX11_month_16 lkX11_217 (cwX2_costOf _ _) ivX2_costOf ⟨_, rfl, rfl⟩ (by first | assumption | rfl) rfl rfl (Nat.le_of_ble_eq_true rfl) (by decide) pKK ?_
    refine M_X2_costOf ht (by omega) (hH.2.2.2.2.2 j (by omega)).1 (hH.2.2.2.2.2 j (by omega)).2.2.2.1 ?_
    refine pE_goto (tgt := 23) dX11_month_19 (by decide) ?_
    refine pE_iret dX11_month_23 rfl rfl ?_
    first | exact h1 j hj rfl | exact h0 hno
  · refine pE_if_eq_t (tgt := 22) dX11_month_8 (by decide) nI_0 ?_
    refine pE_iconst (v := -1) dX11_month_22 rfl ?_
    refine pE_iret dX11_month_23 rfl rfl ?_
    first | exact h1 j hj rfl | exact h0 hno
set_option maxHeartbeats 4000000 in
set_option maxRecDepth 100000 in
theorem L_X11_owing {l : Launch} {X : pX} {t g : Nat} {I : pHI} {J : pHJ} {Q : pQ} {H T : pN} (ht : isH t) (hH : cH t H I) (hr : rH H) (hS : cS 33 T I) (hrT : rS 999 H T) (hq : Q (some (.int (setI (fun j => decide (0 < lackN H T j)) (H 1)))) I J (pR t g)) : ∀ (n j : Nat), H 1 - j < n → j ≤ H 1 → pE l X mX11_owing 2 pK 4 [some (.ref 0), some (.int (setI (fun j => decide (0 < lackN H T j)) j)), some (.int (nI j))] [] pK I J (pR t g) Q := by
  obtain ⟨fHFht0, fHFht1, fHFht2, fHFht3, fHFht4, fHFht5, fHFht6, fHFht7, fHFht8, fHFht9, fHFht10, fHFht11, fHFht12, fHFht13, fHFht14, fHFht15, fHFht16, fHFht17, fHFht18, fHFht19, fHFht20, fHFht21, fHFht22, fHFht23, fHFht24, fHFht25, fHFht26⟩ := HF t g ht
  intro n
  induction n with
  | zero => intro j hn hj; exact absurd hn (Nat.not_lt_zero _)
  | succ n ih =>
    intro j hn hj
    have hn8 := hr.2.1
    refine pE_iload_n dX11_owing_4 rfl rfl ?_
    refine pE_aload_n dX11_owing_5 rfl rfl ?_
    refine pE_getR dX11_owing_6 flX11_29 rfl (by first | assumption | rfl) (by first | assumption | rfl) ?_
    refine pE_getI dX11_owing_9 flX11_110 rfl (Or.inl rfl) (by first | assumption | rfl) ?_
    rw [hH.2.2.1]
    refine pE_icmp_ge (tgt := 42) dX11_owing_12 (by decide) (fun h12 => ?_) (fun h12 => ?_)
    · have g12 := nq_le (by omega) (by omega) h12
      refine pE_iload_n dX11_owing_42 rfl rfl ?_
      refine pE_iret dX11_owing_43 rfl rfl ?_
      obtain rfl : j = H 1 := by omega
      exact hq
    · have g12 := nq_nle (by omega) (by omega) h12
      have hb1 := (hr.2.2.2.2 j (by omega)).2.2.2.1
      have hb3 := (hrT.2.2.2.2 j (by omega)).2.1
      have hb4 := (hrT.2.2.2.2 j (by omega)).2.2
      have hb5 := hrT.2.1
      have hb2 : T (16 + j) ≤ 100000000 := by have := Nat.mul_le_mul_left 1000 hb5; omega
      have hlb : lackN H T j ≤ 200000000 := by unfold lackN; omega
      refine pE_aload_n dX11_owing_15 rfl rfl ?_
      refine pE_getR dX11_owing_16 flX11_29 rfl (by first | assumption | rfl) (by first | assumption | rfl) ?_
      refine pE_aload_n dX11_owing_19 rfl rfl ?_
      refine pE_getR dX11_owing_20 flX11_39 rfl (by first | assumption | rfl) (by first | assumption | rfl) ?_
      refine pE_iload_n dX11_owing_23 rfl rfl ?_
      refine pE_callV (d' := 1) (as := [_, _]) dX11_owing_24 lkX11_148 (cwX2_lackOf _ _) ivX2_lackOf ⟨_, rfl, rfl⟩ (by first | assumption | rfl) rfl rfl (Nat.le_of_ble_eq_true rfl) (by decide) pKK ?_
      refine M_X2_lackOf ht (Or.inl rfl) (by omega) (hH.2.2.2.2.2 j (by omega)).2.2.2.1 (hS.2.2.2.2 j (by omega)).2.2 (hS.2.2.2.2 j (by omega)).2.1 hb1 hb2 hb3 ?_
      refine pE_if_le (tgt := 36) dX11_owing_27 (by decide) (fun h27 => ?_) (fun h27 => ?_)
      · have g27 := nq_le0 (by omega) h27
        refine pE_iincN (c0 := 1) (lc' := [_, _, some (.int _)]) dX11_owing_36 rfl rfl rfl rfl ?_
        refine pE_goto (tgt := 4) dX11_owing_39 (by decide) ?_
        refine pE_cg (ih (j + 1) (by omega) (by omega)) ?_ rfl rfl rfl rfl
        first | (simp only [setI, decide_eq_true_eq]; rw [if_pos g27]; done) | (simp only [setI, decide_eq_true_eq]; rw [if_neg (by omega)]; done)
      · have g27 := nq_nle0 (by omega) h27
        refine pE_iload_n dX11_owing_30 rfl rfl ?_
        refine pE_iconst (v := nI 1) dX11_owing_31 rfl ?_
        refine pE_iload_n dX11_owing_32 rfl rfl ?_
        refine pE_ishl dX11_owing_33 ?_
        refine pE_ior dX11_owing_34 ?_
        refine pE_istore_n (lc' := [_, some (.int _), _]) dX11_owing_35 rfl (Nat.le_of_ble_eq_true rfl) rfl rfl ?_
        refine pE_iincN (c0 := 1) (lc' := [_, _, some (.int _)]) dX11_owing_36 rfl rfl rfl rfl ?_
        refine pE_goto (tgt := 4) dX11_owing_39 (by decide) ?_
        refine pE_cg (ih (j + 1) (by omega) (by omega)) ?_ rfl rfl rfl rfl
        first | (simp only [setI, decide_eq_true_eq]; rw [if_pos g27]; done) | (simp only [setI, decide_eq_true_eq]; rw [if_neg (by omega)]; done)
set_option maxHeartbeats 4000000 in
set_option maxRecDepth 100000 in
theorem M_X11_owing {l : Launch} {X : pX} {t g : Nat} {I : pHI} {J : pHJ} {Q : pQ} {H T : pN} (ht : isH t) (hH : cH t H I) (hr : rH H) (hS : cS 33 T I) (hrT : rS 999 H T) (hq : Q (some (.int (setI (fun j => decide (0 < lackN H T j)) (H 1)))) I J (pR t g)) : pM l X yX11_owing mX11_owing 2 [.ref 0] pK pK I J (pR t g) Q := by
  refine pM_of rfl (fun h => by cases h) rfl pKM (Nat.le_of_ble_eq_true rfl) ?_
  refine pE_iconst (v := nI 0) dX11_owing_0 rfl ?_
  refine pE_istore_n (lc' := [_, some (.int _), _]) dX11_owing_1 rfl (Nat.le_of_ble_eq_true rfl) rfl rfl ?_
  refine pE_iconst (v := nI 0) dX11_owing_2 rfl ?_
  refine pE_istore_n (lc' := [_, _, some (.int _)]) dX11_owing_3 rfl (Nat.le_of_ble_eq_true rfl) rfl rfl ?_
  exact L_X11_owing ht hH hr hS hrT hq (H 1 + 1) 0 (by omega) (by omega)
set_option maxHeartbeats 4000000 in
set_option maxRecDepth 100000 in
theorem L_X11_live {l : Launch} {X : pX} {t g : Nat} {I : pHI} {J : pHJ} {Q : pQ} {s : Nat} {H : pN} (ht : isH t) (hH : cH t H I) (hr : rH H) (hs : s ≤ H 0) (hq : Q (some (.int (setI (fun j => decide (H (8 + j) = s)) (H 1)))) I J (pR t g)) : ∀ (n j : Nat), H 1 - j < n → j ≤ H 1 → pE l X mX11_live 1 pK 17 [some (.ref 0), some (.int (nI s)), some (.int (setI (fun j => decide (H (8 + j) = s)) j)), some (.int (nI j))] [] pK I J (pR t g) Q := by
  obtain ⟨fHFht0, fHFht1, fHFht2, fHFht3, fHFht4, fHFht5, fHFht6, fHFht7, fHFht8, fHFht9, fHFht10, fHFht11, fHFht12, fHFht13, fHFht14, fHFht15, fHFht16, fHFht17, fHFht18, fHFht19, fHFht20, fHFht21, fHFht22, fHFht23, fHFht24, fHFht25, fHFht26⟩ := HF t g ht
  intro n
  induction n with
  | zero => intro j hn hj; exact absurd hn (Nat.not_lt_zero _)
  | succ n ih =>
    intro j hn hj
    have hn8 := hr.2.1
    have hn20 := hr.1.2
    refine pE_iload_n dX11_live_17 rfl rfl ?_
    refine pE_aload_n dX11_live_18 rfl rfl ?_
    refine pE_getR dX11_live_19 flX11_29 rfl (by first | assumption | rfl) (by first | assumption | rfl) ?_
    refine pE_getI dX11_live_22 flX11_110 rfl (Or.inl rfl) (by first | assumption | rfl) ?_
    rw [hH.2.2.1]
    refine pE_icmp_ge (tgt := 53) dX11_live_25 (by decide) (fun h25 => ?_) (fun h25 => ?_)
    · have g25 := nq_le (by omega) (by omega) h25
      refine pE_iload_n dX11_live_53 rfl rfl ?_
      refine pE_iret dX11_live_54 rfl rfl ?_
      obtain rfl : j = H 1 := by omega
      exact hq
    · have g25 := nq_nle (by omega) (by omega) h25
      have hon := (hr.2.2.2.2 j (by omega)).1
      refine pE_aload_n dX11_live_28 rfl rfl ?_
      refine pE_getR dX11_live_29 flX11_29 rfl (by first | assumption | rfl) (by first | assumption | rfl) ?_
      refine pE_getR dX11_live_32 flX11_123 rfl (by first | assumption | rfl) (by first | assumption | rfl) ?_
      refine pE_iload_n dX11_live_35 rfl rfl ?_
      refine pE_ialoadN dX11_live_36 (by first | assumption | rfl) (by first | assumption | omega) (by omega) ?_
      rw [(hH.2.2.2.2.2 j (by omega)).1]
      refine pE_iload_n dX11_live_37 rfl rfl ?_
      refine pE_icmp_ne (tgt := 47) dX11_live_38 (by decide) (fun h38 => ?_) (fun h38 => ?_)
      · have g38 := nq_ne (by omega) (by omega) h38
        refine pE_iincN (c0 := 1) (lc' := [_, _, _, some (.int _)]) dX11_live_47 rfl rfl rfl rfl ?_
        refine pE_goto (tgt := 17) dX11_live_50 (by decide) ?_
        refine pE_cg (ih (j + 1) (by omega) (by omega)) ?_ rfl rfl rfl rfl
        first | (simp only [setI, decide_eq_true_eq]; rw [if_pos g38]; done) | (simp only [setI, decide_eq_true_eq]; rw [if_neg g38]; done)
      · have g38 := nq_eq (by omega) (by omega) h38
        refine pE_iload_n dX11_live_41 rfl rfl ?_
        refine pE_iconst (v := nI 1) dX11_live_42 rfl ?_
        refine pE_iload_n dX11_live_43 rfl rfl ?_
        refine pE_ishl dX11_live_44 ?_
        refine pE_ior dX11_live_45 ?_
        refine pE_istore_n (lc' := [_, _, some (.int _), _]) dX11_live_46 rfl (Nat.le_of_ble_eq_true rfl) rfl rfl ?_
        refine pE_iincN (c0 := 1) (lc' := [_, _, _, some (.int _)]) dX11_live_47 rfl rfl rfl rfl ?_
        refine pE_goto (tgt := 17) dX11_live_50 (by decide) ?_
        refine pE_cg (ih (j + 1) (by omega) (by omega)) ?_ rfl rfl rfl rfl
        first | (simp only [setI, decide_eq_true_eq]; rw [if_pos g38]; done) | (simp only [setI, decide_eq_true_eq]; rw [if_neg g38]; done)
set_option maxHeartbeats 4000000 in
set_option maxRecDepth 100000 in
theorem M_X11_live {l : Launch} {X : pX} {t g : Nat} {I : pHI} {J : pHJ} {Q : pQ} {x : Int32} {H : pN} (ht : isH t) (hH : cH t H I) (hr : rH H) (h1 : ∀ s, x = nI s → s ≤ H 0 → Q (some (.int (setI (fun j => decide (H (8 + j) = s)) (H 1)))) I J (pR t g)) (h0 : (∀ s, s ≤ H 0 → x ≠ nI s) → Q (some (.int (-1))) I J (pR t g)) : pM l X yX11_live mX11_live 1 [.ref 0, .int x] pK pK I J (pR t g) Q := by
  obtain ⟨fHFht0, fHFht1, fHFht2, fHFht3, fHFht4, fHFht5, fHFht6, fHFht7, fHFht8, fHFht9, fHFht10, fHFht11, fHFht12, fHFht13, fHFht14, fHFht15, fHFht16, fHFht17, fHFht18, fHFht19, fHFht20, fHFht21, fHFht22, fHFht23, fHFht24, fHFht25, fHFht26⟩ := HF t g ht
  have hn8 := hr.2.1
  have hn20 := hr.1.2
  refine pM_of rfl (fun h => by cases h) rfl pKM (Nat.le_of_ble_eq_true rfl) ?_
  refine pE_aload_n dX11_live_0 rfl rfl ?_
  refine pE_getR dX11_live_1 flX11_29 rfl (by first | assumption | rfl) (by first | assumption | rfl) ?_
  refine pE_iload_n dX11_live_4 rfl rfl ?_
  refine pE_callV (d' := 0) (as := [_]) dX11_live_5 lkX11_299 (cwX2_hasStorey _ _) ivX2_hasStorey ⟨_, rfl, rfl⟩ (by first | assumption | rfl) rfl rfl (Nat.le_of_ble_eq_true rfl) (by decide) pKK ?_
  refine M_X2_hasStorey (H := H) ht hH.1 hn20 (fun s e hs => ?_) (fun hno => ?_)
  · subst e
    refine pE_if_ne_t (tgt := 13) dX11_live_8 (by decide) nI_1n0 ?_
    refine pE_iconst (v := nI 0) dX11_live_13 rfl ?_
    refine pE_istore_n (lc' := [_, _, some (.int _), _]) dX11_live_14 rfl (Nat.le_of_ble_eq_true rfl) rfl rfl ?_
    refine pE_iconst (v := nI 0) dX11_live_15 rfl ?_
    refine pE_istore_n (lc' := [_, _, _, some (.int _)]) dX11_live_16 rfl (Nat.le_of_ble_eq_true rfl) rfl rfl ?_
    exact L_X11_live ht hH hr hs (h1 s rfl hs) (H 1 + 1) 0 (by omega) (by omega)
  · refine pE_if_ne_f (tgt := 13) dX11_live_8 (by decide) nI_0 ?_
    refine pE_iconst (v := -1) dX11_live_11 rfl ?_
    refine pE_iret dX11_live_12 rfl rfl ?_
    exact h0 hno
set_option maxHeartbeats 4000000 in
set_option maxRecDepth 100000 in
theorem L_X11_spread {l : Launch} {X : pX} {t g : Nat} {I : pHI} {J : pHJ} {Q : pQ} {H : pN} (ht : isH t) (hH : cH t H I) (hr : rH H) (h0 : 0 < H 1) (hq : Q (some (.int (nI (maxN (fun j => 30 * H (8 + j) + H (32 + j)) (H 1) - minN (fun j => 30 * H (8 + j) + H (32 + j)) 1599 (H 1))))) I J (pR t g)) : ∀ (n j : Nat), H 1 - j < n → j ≤ H 1 → pE l X mX11_spread 1 pK 20 [some (.ref 0), some (.int (nI (minN (fun j => 30 * H (8 + j) + H (32 + j)) 1599 j))), some (.int (nI (maxN (fun j => 30 * H (8 + j) + H (32 + j)) j))), some (.int (nI j))] [] pK I J (pR t g) Q := by
  obtain ⟨fHFht0, fHFht1, fHFht2, fHFht3, fHFht4, fHFht5, fHFht6, fHFht7, fHFht8, fHFht9, fHFht10, fHFht11, fHFht12, fHFht13, fHFht14, fHFht15, fHFht16, fHFht17, fHFht18, fHFht19, fHFht20, fHFht21, fHFht22, fHFht23, fHFht24, fHFht25, fHFht26⟩ := HF t g ht
  intro n
  induction n with
  | zero => intro j hn hj; exact absurd hn (Nat.not_lt_zero _)
  | succ n ih =>
    intro j hn hj
    have hn8 := hr.2.1
    have hn20 := hr.1.2
    have hcb : ∀ j, j < H 1 → 30 * H (8 + j) + H (32 + j) ≤ 1599 := fun j hj => by have := hr.2.2.2.2 j (by omega); omega
    have hm1 := minN_le (fun j => 30 * H (8 + j) + H (32 + j)) 1599 j
    have hm2 := maxN_le (f := (fun j => 30 * H (8 + j) + H (32 + j))) (B := 1599) j (fun i hi => hcb i (by omega))
    refine pE_iload_n dX11_spread_20 rfl rfl ?_
    refine pE_aload_n dX11_spread_21 rfl rfl ?_
    refine pE_getR dX11_spread_22 flX11_29 rfl (by first | assumption | rfl) (by first | assumption | rfl) ?_
    refine pE_getI dX11_spread_25 flX11_110 rfl (Or.inl rfl) (by first | assumption | rfl) ?_
    rw [hH.2.2.1]
    refine pE_icmp_ge (tgt := 63) dX11_spread_28 (by decide) (fun h28 => ?_) (fun h28 => ?_)
    · have g28 := nq_le (by omega) (by omega) h28
      obtain rfl : j = H 1 := by omega
      refine pE_iload_n dX11_spread_63 rfl rfl ?_
      refine pE_iload_n dX11_spread_64 rfl rfl ?_
      refine pE_isubN dX11_spread_65 (by exact minmax _ hcb h0) ?_
      refine pE_iret dX11_spread_66 rfl rfl ?_
      exact hq
    · have g28 := nq_nle (by omega) (by omega) h28
      have hcj := hcb j (by omega)
      refine pE_iload_n dX11_spread_31 rfl rfl ?_
      refine pE_aload_n dX11_spread_32 rfl rfl ?_
      refine pE_getR dX11_spread_33 flX11_29 rfl (by first | assumption | rfl) (by first | assumption | rfl) ?_
      refine pE_iload_n dX11_spread_36 rfl rfl ?_
      refine pE_callV (d' := 0) (as := [_]) dX11_spread_37 lkX11_217 (cwX2_costOf _ _) ivX2_costOf ⟨_, rfl, rfl⟩ (by first | assumption | rfl) rfl rfl (Nat.le_of_ble_eq_true rfl) (by decide) pKK ?_
      refine M_X2_costOf ht (by omega) (hH.2.2.2.2.2 j (by omega)).1 (hH.2.2.2.2.2 j (by omega)).2.2.2.1 ?_
      refine pE_min dX11_spread_40 lkX11_276 (by decide) (Nat.le_of_ble_eq_true rfl) ?_
      rw [nI_min _ _ (by omega) (by omega)]
      refine pE_istore_n (lc' := [_, some (.int _), _, _]) dX11_spread_43 rfl (Nat.le_of_ble_eq_true rfl) rfl rfl ?_
      refine pE_iload_n dX11_spread_44 rfl rfl ?_
      refine pE_aload_n dX11_spread_45 rfl rfl ?_
      refine pE_getR dX11_spread_46 flX11_29 rfl (by first | assumption | rfl) (by first | assumption | rfl) ?_
      refine pE_iload_n dX11_spread_49 rfl rfl ?_
      refine pE_callV (d' := 0) (as := [_]) dX11_spread_50 lkX11_217 (cwX2_costOf _ _) ivX2_costOf ⟨_, rfl, rfl⟩ (by first | assumption | rfl) rfl rfl (Nat.le_of_ble_eq_true rfl) (by decide) pKK ?_
      refine M_X2_costOf ht (by omega) (hH.2.2.2.2.2 j (by omega)).1 (hH.2.2.2.2.2 j (by omega)).2.2.2.1 ?_
      refine pE_max dX11_spread_53 lkX11_285 (by decide) (Nat.le_of_ble_eq_true rfl) ?_
      rw [nI_max _ _ (by omega) (by omega)]
      refine pE_istore_n (lc' := [_, _, some (.int _), _]) dX11_spread_56 rfl (Nat.le_of_ble_eq_true rfl) rfl rfl ?_
      refine pE_iincN (c0 := 1) (lc' := [_, _, _, some (.int _)]) dX11_spread_57 rfl rfl rfl rfl ?_
      refine pE_goto (tgt := 20) dX11_spread_60 (by decide) ?_
      exact ih (j + 1) (by omega) (by omega)
set_option maxHeartbeats 4000000 in
set_option maxRecDepth 100000 in
theorem M_X11_spread {l : Launch} {X : pX} {t g : Nat} {I : pHI} {J : pHJ} {Q : pQ} {H : pN} (ht : isH t) (hH : cH t H I) (hr : rH H) (h1 : 0 < H 1 → Q (some (.int (nI (maxN (fun j => 30 * H (8 + j) + H (32 + j)) (H 1) - minN (fun j => 30 * H (8 + j) + H (32 + j)) 1599 (H 1))))) I J (pR t g)) (h0 : H 1 = 0 → Q (some (.int (-1))) I J (pR t g)) : pM l X yX11_spread mX11_spread 1 [.ref 0] pK pK I J (pR t g) Q := by
  obtain ⟨fHFht0, fHFht1, fHFht2, fHFht3, fHFht4, fHFht5, fHFht6, fHFht7, fHFht8, fHFht9, fHFht10, fHFht11, fHFht12, fHFht13, fHFht14, fHFht15, fHFht16, fHFht17, fHFht18, fHFht19, fHFht20, fHFht21, fHFht22, fHFht23, fHFht24, fHFht25, fHFht26⟩ := HF t g ht
  have hn8 := hr.2.1
  refine pM_of rfl (fun h => by cases h) rfl pKM (Nat.le_of_ble_eq_true rfl) ?_
  refine pE_aload_n dX11_spread_0 rfl rfl ?_
  refine pE_getR dX11_spread_1 flX11_29 rfl (by first | assumption | rfl) (by first | assumption | rfl) ?_
  refine pE_getI dX11_spread_4 flX11_110 rfl (Or.inl rfl) (by first | assumption | rfl) ?_
  rw [hH.2.2.1]
  refine pE_if_ne (tgt := 12) dX11_spread_7 (by decide) (fun h7 => ?_) (fun h7 => ?_)
  · have g7 := nq_ne0 (by omega) h7
    refine pE_sipush (v := nI 1599) dX11_spread_12 rfl ?_
    refine pE_istore_n (lc' := [_, some (.int _), _, _]) dX11_spread_15 rfl (Nat.le_of_ble_eq_true rfl) rfl rfl ?_
    refine pE_iconst (v := nI 0) dX11_spread_16 rfl ?_
    refine pE_istore_n (lc' := [_, _, some (.int _), _]) dX11_spread_17 rfl (Nat.le_of_ble_eq_true rfl) rfl rfl ?_
    refine pE_iconst (v := nI 0) dX11_spread_18 rfl ?_
    refine pE_istore_n (lc' := [_, _, _, some (.int _)]) dX11_spread_19 rfl (Nat.le_of_ble_eq_true rfl) rfl rfl ?_
    exact L_X11_spread ht hH hr g7 (h1 g7) (H 1 + 1) 0 (by omega) (by omega)
  · have g7 := nq_eq0 (by omega) h7
    refine pE_iconst (v := -1) dX11_spread_10 rfl ?_
    refine pE_iret dX11_spread_11 rfl rfl ?_
    exact h0 g7
set_option maxHeartbeats 4000000 in
set_option maxRecDepth 100000 in
theorem L_X12_layHomes {l : Launch} {X : pX} {t g : Nat} {I : pHI} {J : pHJ} {Q : pQ} {H : pN} (hH : mH H I) (hr : rH H) (hq : Q none (pz I 99 (fun q => if q < H 1 then I 85 q else I 99 q)) J (pR t g)) : ∀ (n j : Nat), H 1 - j < n → j ≤ H 1 → pE l X mX12_layHomes 0 pK 2 [some (.ref 67), some (.int (nI j))] [] pK (pz I 99 (fun q => if q < j then I 85 q else I 99 q)) J (pR t g) Q := by
  intro n
  induction n with
  | zero => intro j hn hj; exact absurd hn (Nat.not_lt_zero _)
  | succ n ih =>
    intro j hn hj
    have hn8 := hr.2.1
    refine pE_iload_n dX12_layHomes_2 rfl rfl ?_
    refine pE_aload_n dX12_layHomes_3 rfl rfl ?_
    refine pE_getI dX12_layHomes_4 flX12_350 rfl (Or.inl rfl) (by first | assumption | rfl) ?_
    rw [pz_ne _ _ (by decide : (67 : Nat) ≠ 99), hH.2.1]
    refine pE_icmp_ge (tgt := 28) dX12_layHomes_7 (by decide) (fun h7 => ?_) (fun h7 => ?_)
    · have g7 := nq_le (by omega) (by omega) h7
      refine pE_vret dX12_layHomes_28 rfl rfl ?_
      obtain rfl : j = H 1 := by omega
      exact hq
    · have g7 := nq_nle (by omega) (by omega) h7
      refine pE_aload_n dX12_layHomes_10 rfl rfl ?_
      refine pE_getR dX12_layHomes_11 flX12_112 rfl (by first | assumption | rfl) (by first | assumption | rfl) ?_
      refine pE_iload_n dX12_layHomes_14 rfl rfl ?_
      refine pE_aload_n dX12_layHomes_15 rfl rfl ?_
      refine pE_getR dX12_layHomes_16 flX12_67 rfl (by first | assumption | rfl) (by first | assumption | rfl) ?_
      refine pE_iload_n dX12_layHomes_19 rfl rfl ?_
      refine pE_ialoadN dX12_layHomes_20 (by first | assumption | rfl) (by first | assumption | omega) (by omega) ?_
      refine pE_iastoreN dX12_layHomes_21 (by first | assumption | rfl) (by first | assumption | omega) (by omega) ?_
      refine pE_iincN (c0 := 1) (lc' := [_, some (.int _)]) dX12_layHomes_22 rfl rfl rfl rfl ?_
      refine pE_goto (tgt := 2) dX12_layHomes_25 (by decide) ?_
      refine pE_cg (ih (j + 1) (by omega) (by omega)) rfl rfl (lp_fill (a := I 85) (b := I 99) (by rw [pz_ne _ _ (by decide)])) rfl rfl
set_option maxHeartbeats 4000000 in
set_option maxRecDepth 100000 in
theorem M_X12_layHomes {l : Launch} {X : pX} {t g : Nat} {I : pHI} {J : pHJ} {Q : pQ} {H : pN} (hH : mH H I) (hr : rH H) (hq : ∀ I1, sz I I1 → (∀ j, j < H 1 → I1 99 j = nI (H (8 + j))) → Q none I1 J (pR t g)) : pM l X yX12_layHomes mX12_layHomes 0 [.ref 67] pK pK I J (pR t g) Q := by
  refine pM_of rfl (fun h => by cases h) rfl pKM (Nat.le_of_ble_eq_true rfl) ?_
  refine pE_iconst (v := nI 0) dX12_layHomes_0 rfl ?_
  refine pE_istore_n (lc' := [_, some (.int _)]) dX12_layHomes_1 rfl (Nat.le_of_ble_eq_true rfl) rfl rfl ?_
  refine pE_cg (L_X12_layHomes hH hr (hq _ (fun c k a b => by have hc : c ≠ 99 := (fun e => b (by subst e; simp [scM])); rw [pz_ne _ _ hc]) (fun j hj => by rw [pz_eq, if_pos hj]; exact (hH.2.2.2 j hj).1)) (H 1 + 1) 0 (by omega) (by omega)) rfl rfl (lp_fill0 I 99 (I 85)) rfl rfl
set_option maxHeartbeats 4000000 in
set_option maxRecDepth 100000 in
theorem M_X12_monthOf {l : Launch} {X : pX} {t g : Nat} {I : pHI} {J : pHJ} {Q : pQ} {j a b : Nat} (hj : j < 8) (e1 : I 99 j = nI a) (e2 : I 88 j = nI b) (hq : Q (some (.int (nI (30 * a + b)))) I J (pR t g)) : pM l X yX12_monthOf mX12_monthOf 0 [.ref 67, .int (nI j)] pK pK I J (pR t g) Q := by
  refine pM_of rfl (fun h => by cases h) rfl pKM (Nat.le_of_ble_eq_true rfl) ?_
  refine pE_bipush (v := nI 30) dX12_monthOf_0 rfl ?_
  refine pE_aload_n dX12_monthOf_2 rfl rfl ?_
  refine pE_getR dX12_monthOf_3 flX12_112 rfl (by first | assumption | rfl) (by first | assumption | rfl) ?_
  refine pE_iload_n dX12_monthOf_6 rfl rfl ?_
  refine pE_ialoadN dX12_monthOf_7 (by first | assumption | rfl) (by first | assumption | omega) (by omega) ?_
  rw [e1]
  refine pE_imulN dX12_monthOf_8 ?_
  refine pE_aload_n dX12_monthOf_9 rfl rfl ?_
  refine pE_getR dX12_monthOf_10 flX12_76 rfl (by first | assumption | rfl) (by first | assumption | rfl) ?_
  refine pE_iload_n dX12_monthOf_13 rfl rfl ?_
  refine pE_ialoadN dX12_monthOf_14 (by first | assumption | rfl) (by first | assumption | omega) (by omega) ?_
  rw [e2]
  refine pE_iaddN dX12_monthOf_15 ?_
  refine pE_iret dX12_monthOf_16 rfl rfl ?_
  exact hq
set_option maxHeartbeats 4000000 in
set_option maxRecDepth 100000 in
theorem M_X12_month {l : Launch} {X : pX} {t g : Nat} {I : pHI} {J : pHJ} {Q : pQ} {x : Int32} {H : pN} (hH : mH H I) (hr : rH H) (h1 : ∀ j, j < H 1 → x = nI j → ∀ I1, sz I I1 → Q (some (.int (nI (30 * H (8 + j) + H (32 + j))))) I1 J (pR t g)) (h0 : (∀ j, j < H 1 → x ≠ nI j) → Q (some (.int (-1))) I J (pR t g)) : pM l X yX12_month mX12_month 2 [.ref 67, .int x] pK pK I J (pR t g) Q := by
  have hn8 := hr.2.1
  refine pM_of rfl (fun h => by cases h) rfl pKM (Nat.le_of_ble_eq_true rfl) ?_
  refine pE_aload_n dX12_month_0 rfl rfl ?_
  refine pE_iload_n dX12_month_1 rfl rfl ?_
  refine pE_callV (d' := 1) (as := [_]) dX12_month_2 lkX12_382 (cwX12_isTenant _ _) ivX12_isTenant ⟨_, rfl, rfl⟩ (by first | assumption | rfl) rfl rfl (Nat.le_of_ble_eq_true rfl) (by decide) pKK ?_
  refine M_X12_isTenant (H := H) hH.2.1 hn8 (fun j hj e => ?_) (fun hno => ?_)
  · subst e
    refine pE_if_ne_t (tgt := 10) dX12_month_5 (by decide) nI_1n0 ?_
    refine pE_aload_n dX12_month_10 rfl rfl ?_
    refine pE_callV (d' := 0) (as := []) dX12_month_11 lkX12_458 (cwX12_layHomes _ _) ivX12_layHomes ⟨_, rfl, rfl⟩ (by first | assumption | rfl) rfl rfl (Nat.le_of_ble_eq_true rfl) (by decide) pKK ?_
    refine M_X12_layHomes hH hr (fun I1 hz hho => ?_)
    refine pE_aload_n dX12_month_14 rfl rfl ?_
    refine pE_iload_n dX12_month_15 rfl rfl ?_
    refine pE_callV (d' := 0) (as := [_]) dX12_month_16 lkX12_467 (cwX12_monthOf _ _) ivX12_monthOf ⟨_, rfl, rfl⟩ (by first | assumption | rfl) rfl rfl (Nat.le_of_ble_eq_true rfl) (by decide) pKK ?_
    refine M_X12_monthOf (by omega) (hho j hj) ((hH.sz hz).2.2.2 j hj).2.2.2.1 ?_
    refine pE_iret dX12_month_19 rfl rfl ?_
    exact h1 j hj rfl I1 hz
  · refine pE_if_ne_f (tgt := 10) dX12_month_5 (by decide) nI_0 ?_
    refine pE_iconst (v := -1) dX12_month_8 rfl ?_
    refine pE_iret dX12_month_9 rfl rfl ?_
    exact h0 hno
set_option maxHeartbeats 4000000 in
set_option maxRecDepth 100000 in
theorem L_X12_uneven {l : Launch} {X : pX} {t g : Nat} {I : pHI} {J : pHJ} {Q : pQ} {H : pN} {h : Nat → Nat} (hH : mH H I) (hr : rH H) (hho : ∀ j, j < H 1 → I 99 j = nI (h j)) (hb : ∀ j, j < H 1 → h j ≤ 20) (h0 : 0 < H 1) (hq : Q (some (.int (nI (maxN (fun j => 30 * h j + H (32 + j)) (H 1) - minN (fun j => 30 * h j + H (32 + j)) 1000000 (H 1))))) I J (pR t g)) : ∀ (n j : Nat), H 1 - j < n → j ≤ H 1 → pE l X mX12_uneven 1 pK 8 [some (.ref 67), some (.int (nI (minN (fun j => 30 * h j + H (32 + j)) 1000000 j))), some (.int (nI (maxN (fun j => 30 * h j + H (32 + j)) j))), some (.int (nI j))] [] pK I J (pR t g) Q := by
  intro n
  induction n with
  | zero => intro j hn hj; exact absurd hn (Nat.not_lt_zero _)
  | succ n ih =>
    intro j hn hj
    have hn8 := hr.2.1
    have hcb : ∀ j, j < H 1 → 30 * h j + H (32 + j) ≤ 1599 := fun j hj => by
      have a1 := hr.2.2.2.2 j (by omega)
      have a2 := hb j hj
      omega
    have hm1 := minN_le (fun j => 30 * h j + H (32 + j)) 1000000 j
    have hm2 := maxN_le (f := (fun j => 30 * h j + H (32 + j))) (B := 1599) j (fun i hi => hcb i (by omega))
    refine pE_iload_n dX12_uneven_8 rfl rfl ?_
    refine pE_aload_n dX12_uneven_9 rfl rfl ?_
    refine pE_getI dX12_uneven_10 flX12_350 rfl (Or.inl rfl) (by first | assumption | rfl) ?_
    rw [hH.2.1]
    refine pE_icmp_ge (tgt := 60) dX12_uneven_13 (by decide) (fun h13 => ?_) (fun h13 => ?_)
    · have g13 := nq_le (by omega) (by omega) h13
      obtain rfl : j = H 1 := by omega
      refine pE_iload_n dX12_uneven_60 rfl rfl ?_
      refine pE_iload_n dX12_uneven_61 rfl rfl ?_
      refine pE_isubN dX12_uneven_62 (by exact minmax _ (fun j hj => Nat.le_trans (hcb j hj) (by omega)) h0) ?_
      refine pE_iret dX12_uneven_63 rfl rfl ?_
      exact hq
    · have g13 := nq_nle (by omega) (by omega) h13
      have hcj := hcb j (by omega)
      refine pE_aload_n dX12_uneven_16 rfl rfl ?_
      refine pE_iload_n dX12_uneven_17 rfl rfl ?_
      refine pE_callV (d' := 0) (as := [_]) dX12_uneven_18 lkX12_467 (cwX12_monthOf _ _) ivX12_monthOf ⟨_, rfl, rfl⟩ (by first | assumption | rfl) rfl rfl (Nat.le_of_ble_eq_true rfl) (by decide) pKK ?_
      refine M_X12_monthOf (by omega) (hho j (by omega)) (hH.2.2.2 j (by omega)).2.2.2.1 ?_
      refine pE_iload_n dX12_uneven_21 rfl rfl ?_
      refine pE_icmp_ge (tgt := 33) dX12_uneven_22 (by decide) (fun h22 => ?_) (fun h22 => ?_)
      · have g22 := nq_le (by omega) (by omega) h22
        refine pE_iload_n dX12_uneven_33 rfl rfl ?_
        refine pE_istore_n (lc' := [_, some (.int _), _, _]) dX12_uneven_34 rfl (Nat.le_of_ble_eq_true rfl) rfl rfl ?_
        refine pE_aload_n dX12_uneven_35 rfl rfl ?_
        refine pE_iload_n dX12_uneven_36 rfl rfl ?_
        refine pE_callV (d' := 0) (as := [_]) dX12_uneven_37 lkX12_467 (cwX12_monthOf _ _) ivX12_monthOf ⟨_, rfl, rfl⟩ (by first | assumption | rfl) rfl rfl (Nat.le_of_ble_eq_true rfl) (by decide) pKK ?_
        refine M_X12_monthOf (by omega) (hho j (by omega)) (hH.2.2.2 j (by omega)).2.2.2.1 ?_
        refine pE_iload_n dX12_uneven_40 rfl rfl ?_
        refine pE_icmp_le (tgt := 52) dX12_uneven_41 (by decide) (fun h41 => ?_) (fun h41 => ?_)
        · have g41 := nq_le (by omega) (by omega) h41
          refine pE_iload_n dX12_uneven_52 rfl rfl ?_
          refine pE_istore_n (lc' := [_, _, some (.int _), _]) dX12_uneven_53 rfl (Nat.le_of_ble_eq_true rfl) rfl rfl ?_
          refine pE_iincN (c0 := 1) (lc' := [_, _, _, some (.int _)]) dX12_uneven_54 rfl rfl rfl rfl ?_
          refine pE_goto (tgt := 8) dX12_uneven_57 (by decide) ?_
          refine pE_cg (ih (j + 1) (by omega) (by omega)) ?_ rfl rfl rfl rfl
          simp only [minN, maxN]
          first | (rw [Nat.min_eq_right (by omega), Nat.max_eq_right (by omega)]; done) | (rw [Nat.min_eq_right (by omega), Nat.max_eq_left (by omega)]; done) | (rw [Nat.min_eq_left (by omega), Nat.max_eq_right (by omega)]; done) | (rw [Nat.min_eq_left (by omega), Nat.max_eq_left (by omega)]; done)
        · have g41 := nq_nle (by omega) (by omega) h41
          refine pE_aload_n dX12_uneven_44 rfl rfl ?_
          refine pE_iload_n dX12_uneven_45 rfl rfl ?_
          refine pE_callV (d' := 0) (as := [_]) dX12_uneven_46 lkX12_467 (cwX12_monthOf _ _) ivX12_monthOf ⟨_, rfl, rfl⟩ (by first | assumption | rfl) rfl rfl (Nat.le_of_ble_eq_true rfl) (by decide) pKK ?_
          refine M_X12_monthOf (by omega) (hho j (by omega)) (hH.2.2.2 j (by omega)).2.2.2.1 ?_
          refine pE_goto (tgt := 53) dX12_uneven_49 (by decide) ?_
          refine pE_istore_n (lc' := [_, _, some (.int _), _]) dX12_uneven_53 rfl (Nat.le_of_ble_eq_true rfl) rfl rfl ?_
          refine pE_iincN (c0 := 1) (lc' := [_, _, _, some (.int _)]) dX12_uneven_54 rfl rfl rfl rfl ?_
          refine pE_goto (tgt := 8) dX12_uneven_57 (by decide) ?_
          refine pE_cg (ih (j + 1) (by omega) (by omega)) ?_ rfl rfl rfl rfl
          simp only [minN, maxN]
          first | (rw [Nat.min_eq_right (by omega), Nat.max_eq_right (by omega)]; done) | (rw [Nat.min_eq_right (by omega), Nat.max_eq_left (by omega)]; done) | (rw [Nat.min_eq_left (by omega), Nat.max_eq_right (by omega)]; done) | (rw [Nat.min_eq_left (by omega), Nat.max_eq_left (by omega)]; done)
      · have g22 := nq_nle (by omega) (by omega) h22
        refine pE_aload_n dX12_uneven_25 rfl rfl ?_
        refine pE_iload_n dX12_uneven_26 rfl rfl ?_
        refine pE_callV (d' := 0) (as := [_]) dX12_uneven_27 lkX12_467 (cwX12_monthOf _ _) ivX12_monthOf ⟨_, rfl, rfl⟩ (by first | assumption | rfl) rfl rfl (Nat.le_of_ble_eq_true rfl) (by decide) pKK ?_
        refine M_X12_monthOf (by omega) (hho j (by omega)) (hH.2.2.2 j (by omega)).2.2.2.1 ?_
        refine pE_goto (tgt := 34) dX12_uneven_30 (by decide) ?_
        refine pE_istore_n (lc' := [_, some (.int _), _, _]) dX12_uneven_34 rfl (Nat.le_of_ble_eq_true rfl) rfl rfl ?_
        refine pE_aload_n dX12_uneven_35 rfl rfl ?_
        refine pE_iload_n dX12_uneven_36 rfl rfl ?_
        refine pE_callV (d' := 0) (as := [_]) dX12_uneven_37 lkX12_467 (cwX12_monthOf _ _) ivX12_monthOf ⟨_, rfl, rfl⟩ (by first | assumption | rfl) rfl rfl (Nat.le_of_ble_eq_true rfl) (by decide) pKK ?_
        refine M_X12_monthOf (by omega) (hho j (by omega)) (hH.2.2.2 j (by omega)).2.2.2.1 ?_
        refine pE_iload_n dX12_uneven_40 rfl rfl ?_
        refine pE_icmp_le (tgt := 52) dX12_uneven_41 (by decide) (fun h41 => ?_) (fun h41 => ?_)
        · have g41 := nq_le (by omega) (by omega) h41
          refine pE_iload_n dX12_uneven_52 rfl rfl ?_
          refine pE_istore_n (lc' := [_, _, some (.int _), _]) dX12_uneven_53 rfl (Nat.le_of_ble_eq_true rfl) rfl rfl ?_
          refine pE_iincN (c0 := 1) (lc' := [_, _, _, some (.int _)]) dX12_uneven_54 rfl rfl rfl rfl ?_
          refine pE_goto (tgt := 8) dX12_uneven_57 (by decide) ?_
          refine pE_cg (ih (j + 1) (by omega) (by omega)) ?_ rfl rfl rfl rfl
          simp only [minN, maxN]
          first | (rw [Nat.min_eq_right (by omega), Nat.max_eq_right (by omega)]; done) | (rw [Nat.min_eq_right (by omega), Nat.max_eq_left (by omega)]; done) | (rw [Nat.min_eq_left (by omega), Nat.max_eq_right (by omega)]; done) | (rw [Nat.min_eq_left (by omega), Nat.max_eq_left (by omega)]; done)
        · have g41 := nq_nle (by omega) (by omega) h41
          refine pE_aload_n dX12_uneven_44 rfl rfl ?_
          refine pE_iload_n dX12_uneven_45 rfl rfl ?_
          refine pE_callV (d' := 0) (as := [_]) dX12_uneven_46 lkX12_467 (cwX12_monthOf _ _) ivX12_monthOf ⟨_, rfl, rfl⟩ (by first | assumption | rfl) rfl rfl (Nat.le_of_ble_eq_true rfl) (by decide) pKK ?_
          refine M_X12_monthOf (by omega) (hho j (by omega)) (hH.2.2.2 j (by omega)).2.2.2.1 ?_
          refine pE_goto (tgt := 53) dX12_uneven_49 (by decide) ?_
          refine pE_istore_n (lc' := [_, _, some (.int _), _]) dX12_uneven_53 rfl (Nat.le_of_ble_eq_true rfl) rfl rfl ?_
          refine pE_iincN (c0 := 1) (lc' := [_, _, _, some (.int _)]) dX12_uneven_54 rfl rfl rfl rfl ?_
          refine pE_goto (tgt := 8) dX12_uneven_57 (by decide) ?_
          refine pE_cg (ih (j + 1) (by omega) (by omega)) ?_ rfl rfl rfl rfl
          simp only [minN, maxN]
          first | (rw [Nat.min_eq_right (by omega), Nat.max_eq_right (by omega)]; done) | (rw [Nat.min_eq_right (by omega), Nat.max_eq_left (by omega)]; done) | (rw [Nat.min_eq_left (by omega), Nat.max_eq_right (by omega)]; done) | (rw [Nat.min_eq_left (by omega), Nat.max_eq_left (by omega)]; done)
set_option maxHeartbeats 4000000 in
set_option maxRecDepth 100000 in
theorem M_X12_uneven {l : Launch} {X : pX} {t g : Nat} {I : pHI} {J : pHJ} {Q : pQ} {H : pN} {h : Nat → Nat} (hH : mH H I) (hr : rH H) (hho : ∀ j, j < H 1 → I 99 j = nI (h j)) (hb : ∀ j, j < H 1 → h j ≤ 20) (h0 : 0 < H 1) (hq : Q (some (.int (nI (maxN (fun j => 30 * h j + H (32 + j)) (H 1) - minN (fun j => 30 * h j + H (32 + j)) 1000000 (H 1))))) I J (pR t g)) : pM l X yX12_uneven mX12_uneven 1 [.ref 67] pK pK I J (pR t g) Q := by
  refine pM_of rfl (fun h => by cases h) rfl pKM (Nat.le_of_ble_eq_true rfl) ?_
  refine pE_ldcw dX12_uneven_0 kcX12_423 ?_
  rw [show (1000000 : Int32) = nI 1000000 from rfl]
  refine pE_istore_n (lc' := [_, some (.int _), _, _]) dX12_uneven_3 rfl (Nat.le_of_ble_eq_true rfl) rfl rfl ?_
  refine pE_iconst (v := nI 0) dX12_uneven_4 rfl ?_
  refine pE_istore_n (lc' := [_, _, some (.int _), _]) dX12_uneven_5 rfl (Nat.le_of_ble_eq_true rfl) rfl rfl ?_
  refine pE_iconst (v := nI 0) dX12_uneven_6 rfl ?_
  refine pE_istore_n (lc' := [_, _, _, some (.int _)]) dX12_uneven_7 rfl (Nat.le_of_ble_eq_true rfl) rfl rfl ?_
  exact L_X12_uneven hH hr hho hb h0 hq (H 1 + 1) 0 (by omega) (by omega)
set_option maxHeartbeats 4000000 in
set_option maxRecDepth 100000 in
theorem M_X12_spread {l : Launch} {X : pX} {t g : Nat} {I : pHI} {J : pHJ} {Q : pQ} {H : pN} (hH : mH H I) (hr : rH H) (h1 : 0 < H 1 → ∀ I1, sz I I1 → Q (some (.int (nI (maxN (fun j => 30 * H (8 + j) + H (32 + j)) (H 1) - minN (fun j => 30 * H (8 + j) + H (32 + j)) 1599 (H 1))))) I1 J (pR t g)) (h0 : H 1 = 0 → Q (some (.int (-1))) I J (pR t g)) : pM l X yX12_spread mX12_spread 2 [.ref 67] pK pK I J (pR t g) Q := by
  have hn8 := hr.2.1
  have hn20 := hr.1.2
  have hcb : ∀ j, j < H 1 → 30 * H (8 + j) + H (32 + j) ≤ 1599 := fun j hj => by have := hr.2.2.2.2 j (by omega); omega
  refine pM_of rfl (fun h => by cases h) rfl pKM (Nat.le_of_ble_eq_true rfl) ?_
  refine pE_aload_n dX12_spread_0 rfl rfl ?_
  refine pE_getI dX12_spread_1 flX12_350 rfl (Or.inl rfl) (by first | assumption | rfl) ?_
  rw [hH.2.1]
  refine pE_if_ne (tgt := 9) dX12_spread_4 (by decide) (fun h4 => ?_) (fun h4 => ?_)
  · have g4 := nq_ne0 (by omega) h4
    refine pE_aload_n dX12_spread_9 rfl rfl ?_
    refine pE_callV (d' := 0) (as := []) dX12_spread_10 lkX12_458 (cwX12_layHomes _ _) ivX12_layHomes ⟨_, rfl, rfl⟩ (by first | assumption | rfl) rfl rfl (Nat.le_of_ble_eq_true rfl) (by decide) pKK ?_
    refine M_X12_layHomes hH hr (fun I1 hz hho => ?_)
    refine pE_aload_n dX12_spread_13 rfl rfl ?_
    refine pE_callV (d' := 1) (as := []) dX12_spread_14 lkX12_470 (cwX12_uneven _ _) ivX12_uneven ⟨_, rfl, rfl⟩ (by first | assumption | rfl) rfl rfl (Nat.le_of_ble_eq_true rfl) (by decide) pKK ?_
    refine M_X12_uneven (hH.sz hz) hr hho (fun j hj => by have := (hr.2.2.2.2 j (by omega)).1; have := hr.1.2; omega) g4 ?_
    refine pE_iret dX12_spread_17 rfl rfl ?_
    rw [minN_eq (B := 1000000) (C := 1599) (H 1) (fun j hj => ⟨Nat.le_trans (hcb j hj) (by omega), hcb j hj⟩) g4]
    exact h1 g4 I1 hz
  · have g4 := nq_eq0 (by omega) h4
    refine pE_iconst (v := -1) dX12_spread_7 rfl ?_
    refine pE_iret dX12_spread_8 rfl rfl ?_
    exact h0 g4
set_option maxHeartbeats 4000000 in
set_option maxRecDepth 100000 in
theorem L_X12_live {l : Launch} {X : pX} {t g : Nat} {I : pHI} {J : pHJ} {Q : pQ} {s : Nat} {H : pN} (hH : mH H I) (hr : rH H) (hs : s ≤ H 0) (hq : Q (some (.int (setI (fun j => decide (H (8 + j) = s)) (H 1)))) I J (pR t g)) : ∀ (n j : Nat), H 1 - j < n → j ≤ H 1 → pE l X mX12_live 1 pK 18 [some (.ref 67), some (.int (nI s)), some (.int (setI (fun j => decide (H (8 + j) = s)) j)), some (.int (nI j))] [] pK I J (pR t g) Q := by
  intro n
  induction n with
  | zero => intro j hn hj; exact absurd hn (Nat.not_lt_zero _)
  | succ n ih =>
    intro j hn hj
    have hn8 := hr.2.1
    have hn20 := hr.1.2
    refine pE_iload_n dX12_live_18 rfl rfl ?_
    refine pE_aload_n dX12_live_19 rfl rfl ?_
    refine pE_getI dX12_live_20 flX12_350 rfl (Or.inl rfl) (by first | assumption | rfl) ?_
    rw [hH.2.1]
    refine pE_icmp_ge (tgt := 55) dX12_live_23 (by decide) (fun h23 => ?_) (fun h23 => ?_)
    · have g23 := nq_le (by omega) (by omega) h23
      refine pE_iload_n dX12_live_55 rfl rfl ?_
      refine pE_iret dX12_live_56 rfl rfl ?_
      obtain rfl : j = H 1 := by omega
      exact hq
    · have g23 := nq_nle (by omega) (by omega) h23
      have hon := (hr.2.2.2.2 j (by omega)).1
      refine pE_iload_n dX12_live_26 rfl rfl ?_
      refine pE_aload_n dX12_live_27 rfl rfl ?_
      refine pE_getR dX12_live_28 flX12_67 rfl (by first | assumption | rfl) (by first | assumption | rfl) ?_
      refine pE_iload_n dX12_live_31 rfl rfl ?_
      refine pE_ialoadN dX12_live_32 (by first | assumption | rfl) (by first | assumption | omega) (by omega) ?_
      rw [(hH.2.2.2 j (by omega)).1]
      refine pE_iload_n dX12_live_33 rfl rfl ?_
      refine pE_icmp_ne (tgt := 41) dX12_live_34 (by decide) (fun h34 => ?_) (fun h34 => ?_)
      · have g34 := nq_ne (by omega) (by omega) h34
        refine pE_iconst (v := nI 0) dX12_live_41 rfl ?_
        refine pE_callS (d' := 0) (as := [_]) dX12_live_42 lkX12_304 (cwX12_truth _ _) svX12_truth rfl rfl (Nat.le_of_ble_eq_true rfl) (by decide) pKK ?_
        refine M_X12_truth (by first | exact Or.inl rfl | exact Or.inr rfl) ?_
        refine pE_iload_n dX12_live_45 rfl rfl ?_
        refine pE_ishl dX12_live_46 ?_
        refine pE_ior dX12_live_47 ?_
        refine pE_istore_n (lc' := [_, _, some (.int _), _]) dX12_live_48 rfl (Nat.le_of_ble_eq_true rfl) rfl rfl ?_
        refine pE_iincN (c0 := 1) (lc' := [_, _, _, some (.int _)]) dX12_live_49 rfl rfl rfl rfl ?_
        refine pE_goto (tgt := 18) dX12_live_52 (by decide) ?_
        refine pE_cg (ih (j + 1) (by omega) (by omega)) ?_ rfl rfl rfl rfl
        first | (simp only [setI, decide_eq_true_eq]; rw [if_pos g34]; done) | (simp only [setI, decide_eq_true_eq]; rw [if_neg g34, or_sh0 _ (by omega)]; done)
      · have g34 := nq_eq (by omega) (by omega) h34
        refine pE_iconst (v := nI 1) dX12_live_37 rfl ?_
        refine pE_goto (tgt := 42) dX12_live_38 (by decide) ?_
        refine pE_callS (d' := 0) (as := [_]) dX12_live_42 lkX12_304 (cwX12_truth _ _) svX12_truth rfl rfl (Nat.le_of_ble_eq_true rfl) (by decide) pKK ?_
        refine M_X12_truth (by first | exact Or.inl rfl | exact Or.inr rfl) ?_
        refine pE_iload_n dX12_live_45 rfl rfl ?_
        refine pE_ishl dX12_live_46 ?_
        refine pE_ior dX12_live_47 ?_
        refine pE_istore_n (lc' := [_, _, some (.int _), _]) dX12_live_48 rfl (Nat.le_of_ble_eq_true rfl) rfl rfl ?_
        refine pE_iincN (c0 := 1) (lc' := [_, _, _, some (.int _)]) dX12_live_49 rfl rfl rfl rfl ?_
        refine pE_goto (tgt := 18) dX12_live_52 (by decide) ?_
        refine pE_cg (ih (j + 1) (by omega) (by omega)) ?_ rfl rfl rfl rfl
        first | (simp only [setI, decide_eq_true_eq]; rw [if_pos g34]; done) | (simp only [setI, decide_eq_true_eq]; rw [if_neg g34, or_sh0 _ (by omega)]; done)
set_option maxHeartbeats 4000000 in
set_option maxRecDepth 100000 in
theorem M_X12_live {l : Launch} {X : pX} {t g : Nat} {I : pHI} {J : pHJ} {Q : pQ} {x : Int32} {H : pN} (hH : mH H I) (hr : rH H) (h1 : ∀ s, x = nI s → s ≤ H 0 → Q (some (.int (setI (fun j => decide (H (8 + j) = s)) (H 1)))) I J (pR t g)) (h0 : (∀ s, s ≤ H 0 → x ≠ nI s) → Q (some (.int (-1))) I J (pR t g)) : pM l X yX12_live mX12_live 1 [.ref 67, .int x] pK pK I J (pR t g) Q := by
  have hn8 := hr.2.1
  have hn20 := hr.1.2
  refine pM_of rfl (fun h => by cases h) rfl pKM (Nat.le_of_ble_eq_true rfl) ?_
  refine pE_iload_n dX12_live_0 rfl rfl ?_
  refine pE_iconst (v := nI 0) dX12_live_1 rfl ?_
  refine pE_aload_n dX12_live_2 rfl rfl ?_
  refine pE_getI dX12_live_3 flX12_82 rfl (Or.inl rfl) (by first | assumption | rfl) ?_
  rw [hH.1]
  refine pE_callS (d' := 0) (as := [_, _, _]) dX12_live_6 lkX12_368 (cwX12_isIn _ _) svX12_isIn rfl rfl (Nat.le_of_ble_eq_true rfl) (by decide) pKK ?_
  refine M_X12_isIn  (fun k1 k2 => ?_) (fun k => ?_)
  · obtain ⟨s, rfl, m1, hs⟩ := in_rng (by omega) (by omega) k1 k2
    refine pE_if_ne_t (tgt := 14) dX12_live_9 (by decide) nI_1n0 ?_
    refine pE_iconst (v := nI 0) dX12_live_14 rfl ?_
    refine pE_istore_n (lc' := [_, _, some (.int _), _]) dX12_live_15 rfl (Nat.le_of_ble_eq_true rfl) rfl rfl ?_
    refine pE_iconst (v := nI 0) dX12_live_16 rfl ?_
    refine pE_istore_n (lc' := [_, _, _, some (.int _)]) dX12_live_17 rfl (Nat.le_of_ble_eq_true rfl) rfl rfl ?_
    exact L_X12_live hH hr hs (h1 s rfl hs) (H 1 + 1) 0 (by omega) (by omega)
  · have hno := out_rng (by omega) (by omega) k
    refine pE_if_ne_f (tgt := 14) dX12_live_9 (by decide) nI_0 ?_
    refine pE_iconst (v := -1) dX12_live_12 rfl ?_
    refine pE_iret dX12_live_13 rfl rfl ?_
    exact h0 (fun s hs => hno s (Nat.zero_le _) hs)
set_option maxHeartbeats 4000000 in
set_option maxRecDepth 100000 in
theorem L_X12_owing {l : Launch} {X : pX} {t g : Nat} {I : pHI} {J : pHJ} {Q : pQ} {H T : pN} (hH : mH H I) (hr : rH H) (hT : mS 91 T I) (hrT : rS 999 H T) (hq : Q (some (.int (setI (fun j => decide (0 < lackN H T j)) (H 1)))) I J (pR t g)) : ∀ (n j : Nat), H 1 - j < n → j ≤ H 1 → pE l X mX12_owing 2 pK 8 [some (.ref 67), some (.int (setI (fun j => decide (0 < lackN H T j)) j)), some (.int (nI j))] [] pK I J (pR t g) Q := by
  intro n
  induction n with
  | zero => intro j hn hj; exact absurd hn (Nat.not_lt_zero _)
  | succ n ih =>
    intro j hn hj
    have hn8 := hr.2.1
    refine pE_iload_n dX12_owing_8 rfl rfl ?_
    refine pE_aload_n dX12_owing_9 rfl rfl ?_
    refine pE_getI dX12_owing_10 flX12_350 rfl (Or.inl rfl) (by first | assumption | rfl) ?_
    rw [hH.2.1]
    refine pE_icmp_ge (tgt := 43) dX12_owing_13 (by decide) (fun h13 => ?_) (fun h13 => ?_)
    · have g13 := nq_le (by omega) (by omega) h13
      refine pE_iload_n dX12_owing_43 rfl rfl ?_
      refine pE_iret dX12_owing_44 rfl rfl ?_
      obtain rfl : j = H 1 := by omega
      exact hq
    · have g13 := nq_nle (by omega) (by omega) h13
      have hb1 := (hr.2.2.2.2 j (by omega)).2.2.2.1
      have hb3 := (hrT.2.2.2.2 j (by omega)).2.1
      have hb4 := (hrT.2.2.2.2 j (by omega)).2.2
      have hb5 := hrT.2.1
      have hb2 : T (16 + j) ≤ 100000000 := by have := Nat.mul_le_mul_left 1000 hb5; omega
      have hlb : lackN H T j ≤ 200000000 := by unfold lackN; omega
      refine pE_iload_n dX12_owing_16 rfl rfl ?_
      refine pE_aload_n dX12_owing_17 rfl rfl ?_
      refine pE_iload_n dX12_owing_18 rfl rfl ?_
      refine pE_callV (d' := 1) (as := [_]) dX12_owing_19 lkX12_397 (cwX12_lackOf _ _) ivX12_lackOf ⟨_, rfl, rfl⟩ (by first | assumption | rfl) rfl rfl (Nat.le_of_ble_eq_true rfl) (by decide) pKK ?_
      refine M_X12_lackOf (hH.2.2.2 j (by omega)).2.2.2.1 (hT (16 + j) (by omega)) (hT (8 + j) (by omega)) (by omega) hb1 hb2 hb3 ?_
      refine pE_if_le (tgt := 29) dX12_owing_22 (by decide) (fun h22 => ?_) (fun h22 => ?_)
      · have g22 := nq_le0 (by omega) h22
        refine pE_iconst (v := nI 0) dX12_owing_29 rfl ?_
        refine pE_callS (d' := 0) (as := [_]) dX12_owing_30 lkX12_304 (cwX12_truth _ _) svX12_truth rfl rfl (Nat.le_of_ble_eq_true rfl) (by decide) pKK ?_
        refine M_X12_truth (by first | exact Or.inl rfl | exact Or.inr rfl) ?_
        refine pE_iload_n dX12_owing_33 rfl rfl ?_
        refine pE_ishl dX12_owing_34 ?_
        refine pE_ior dX12_owing_35 ?_
        refine pE_istore_n (lc' := [_, some (.int _), _]) dX12_owing_36 rfl (Nat.le_of_ble_eq_true rfl) rfl rfl ?_
        refine pE_iincN (c0 := 1) (lc' := [_, _, some (.int _)]) dX12_owing_37 rfl rfl rfl rfl ?_
        refine pE_goto (tgt := 8) dX12_owing_40 (by decide) ?_
        refine pE_cg (ih (j + 1) (by omega) (by omega)) ?_ rfl rfl rfl rfl
        first | (simp only [setI, decide_eq_true_eq]; rw [if_pos g22]; done) | (simp only [setI, decide_eq_true_eq]; rw [if_neg (by omega), or_sh0 _ (by omega)]; done)
      · have g22 := nq_nle0 (by omega) h22
        refine pE_iconst (v := nI 1) dX12_owing_25 rfl ?_
        refine pE_goto (tgt := 30) dX12_owing_26 (by decide) ?_
        refine pE_callS (d' := 0) (as := [_]) dX12_owing_30 lkX12_304 (cwX12_truth _ _) svX12_truth rfl rfl (Nat.le_of_ble_eq_true rfl) (by decide) pKK ?_
        refine M_X12_truth (by first | exact Or.inl rfl | exact Or.inr rfl) ?_
        refine pE_iload_n dX12_owing_33 rfl rfl ?_
        refine pE_ishl dX12_owing_34 ?_
        refine pE_ior dX12_owing_35 ?_
        refine pE_istore_n (lc' := [_, some (.int _), _]) dX12_owing_36 rfl (Nat.le_of_ble_eq_true rfl) rfl rfl ?_
        refine pE_iincN (c0 := 1) (lc' := [_, _, some (.int _)]) dX12_owing_37 rfl rfl rfl rfl ?_
        refine pE_goto (tgt := 8) dX12_owing_40 (by decide) ?_
        refine pE_cg (ih (j + 1) (by omega) (by omega)) ?_ rfl rfl rfl rfl
        first | (simp only [setI, decide_eq_true_eq]; rw [if_pos g22]; done) | (simp only [setI, decide_eq_true_eq]; rw [if_neg (by omega), or_sh0 _ (by omega)]; done)
set_option maxHeartbeats 4000000 in
set_option maxRecDepth 100000 in
theorem M_X12_owing {l : Launch} {X : pX} {t g : Nat} {I : pHI} {J : pHJ} {Q : pQ} {H T : pN} (hH : mH H I) (hr : rH H) (hS : mS 90 T I) (hrT : rS 999 H T) (hq : ∀ I1, sm I I1 → Q (some (.int (setI (fun j => decide (0 < lackN H T j)) (H 1)))) I1 J (pR t g)) : pM l X yX12_owing mX12_owing 2 [.ref 67] pK pK I J (pR t g) Q := by
  refine pM_of rfl (fun h => by cases h) rfl pKM (Nat.le_of_ble_eq_true rfl) ?_
  refine pE_aload_n dX12_owing_0 rfl rfl ?_
  refine pE_callV (d' := 0) (as := []) dX12_owing_1 lkX12_394 (cwX12_load _ _) ivX12_load ⟨_, rfl, rfl⟩ (by first | assumption | rfl) rfl rfl (Nat.le_of_ble_eq_true rfl) (by decide) pKK ?_
  refine M_X12_load ?_
  refine pE_iconst (v := nI 0) dX12_owing_4 rfl ?_
  refine pE_istore_n (lc' := [_, some (.int _), _]) dX12_owing_5 rfl (Nat.le_of_ble_eq_true rfl) rfl rfl ?_
  refine pE_iconst (v := nI 0) dX12_owing_6 rfl ?_
  refine pE_istore_n (lc' := [_, _, some (.int _)]) dX12_owing_7 rfl (Nat.le_of_ble_eq_true rfl) rfl rfl ?_
  exact L_X12_owing (hH.sm sm.load) hr hS.load hrT (hq _ sm.load) (H 1 + 1) 0 (by omega) (by omega)
