set_option maxHeartbeats 4000000 in
set_option maxRecDepth 100000 in
theorem M_X11_month {l : Launch} {X : pX} {t g : Nat} {I : pHI} {J : pHJ} {Q : pQ} {x : Int32} {H : pN} (ht : isH t) (hH : cH t H I) (hr : rH H) (h1 : ∀ j, j < H 1 → x = nI j → Q (some (.int (nI (30 * H (8 + j) + H (32 + j))))) I J (pR t g)) (h0 : (∀ j, j < H 1 → x ≠ nI j) → Q (some (.int (-1))) I J (pR t g)) : pM l X yX11_month mX11_month 1 [.ref 0, .int x] pK pK I J (pR t g) Q := by
  obtain ⟨fHFht0, fHFht1, fHFht2, fHFht3, fHFht4, fHFht5, fHFht6, fHFht7, fHFht8, fHFht9, fHFht10, fHFht11, fHFht12, fHFht13, fHFht14, fHFht15, fHFht16, fHFht17, fHFht18, fHFht19, fHFht20, fHFht21, fHFht22, fHFht23, fHFht24, fHFht25, fHFht26⟩ := HF t g ht
  have hn8 := hr.2.1
  refine pM_of rfl (fun h => by cases h) rfl pKM (Nat.le_of_ble_eq_true rfl) ?_
  refine pE_aload_n dX11_month_0 rfl rfl ?_
  refine pE_getR dX11_month_1 flX11_29 rfl (by first | assumption | rfl) (by first | assumption | rfl) ?_
  refine pE_iload_n dX11_month_4 rfl rfl ?_
  refine pE_callV (d' := 0) (as := [_]) dX11_month_5 lkX11_119 (cwX2_hasTenant _ _) ivX2_hasTenant ⟨_, rfl, rfl⟩ (by first | assumption | rfl) rfl rfl (Nat.le_of_ble_eq_true rfl) (by decide) pKK ?_
  refine M_X2_hasTenant (H := H) ht hH.2.2.1 hn8 (fun j hj e => ?_) (fun hno => ?_)
  · subst e
    refine pE_if_eq_f (tgt := 22) dX11_month_8 (by decide) nI_1n0 ?_
    refine pE_aload_n dX11_month_11 rfl rfl ?_
    refine pE_getR dX11_month_12 flX11_29 rfl (by first | assumption | rfl) (by first | assumption | rfl) ?_
    refine pE_iload_n dX11_month_15 rfl rfl ?_
    refine pE_callV (d' := 0) (as := [_]) dX11_month_16 lkX11_217 (cwX2_costOf _ _) ivX2_costOf ⟨_, rfl, rfl⟩ (by first | assumption | rfl) rfl rfl (Nat.le_of_ble_eq_true rfl) (by decide) pKK ?_
    refine M_X2_costOf ht (by omega) (hH.2.2.2.2.2 j (by omega)).1 (hH.2.2.2.2.2 j (by omega)).2.2.2.1 ?_
    refine pE_goto (tgt := 23) dX11_month_19 (by decide) ?_
    refine pE_iret dX11_month_23 rfl rfl ?_
    first | exact h1 j hj rfl | exact h0 hno
  · refine pE_if_eq_t (tgt := 22) dX11_month_8 (by decide) nI_0 ?_
    refine pE_iconst (v := -1) dX11_month_22 rfl ?_
    refine pE_iret dX11_month_23 rfl rfl ?_
    first | exact h1 j hj rfl | exact h0 hno
set_option maxHeartbeats 4000000 in
set_option maxRecDepth 100000 in
theorem L_X11_owing {l : Launch} {X : pX} {t g : Nat} {I : pHI} {J : pHJ} {Q : pQ} {H T : pN} (ht : isH t) (hH : cH t H I) (hr : rH H) (hS : cS 33 T I) (hrT : rS 999 H T) (hq : Q (some (.int (setI (fun j => decide (0 < lackN H T j)) (H 1)))) I J (pR t g)) : ∀ (n j : Nat), H 1 - j < n → j ≤ H 1 → pE l X mX11_owing 2 pK 4 [some (.ref 0), some (.int (setI (fun j => decide (0 < lackN H T j)) j)), some (.int (nI j))] [] pK I J (pR t g) Q := by
  obtain ⟨fHFht0, fHFht1, fHFht2, fHFht3, fHFht4, fHFht5, fHFht6, fHFht7, fHFht8, fHFht9, fHFht10, fHFht11, fHFht12, fHFht13, fHFht14, fHFht15, fHFht16, fHFht17, fHFht18, fHFht19, fHFht20, fHFht21, fHFht22, fHFht23, fHFht24, fHFht25, fHFht26⟩ := HF t g ht
  intro n
  induction n with
  | zero => intro j hn hj; exact absurd hn (Nat.not_lt_zero _)
  | succ n ih =>
    intro j hn hj
    have hn8 := hr.2.1
    refine pE_iload_n dX11_owing_4 rfl rfl ?_
    refine pE_aload_n dX11_owing_5 rfl rfl ?_
    refine pE_getR dX11_owing_6 flX11_29 rfl (by first | assumption | rfl) (by first | assumption | rfl) ?_
    refine pE_getI dX11_owing_9 flX11_110 rfl (Or.inl rfl) (by first | assumption | rfl) ?_
    rw [hH.2.2.1]
    refine pE_icmp_ge (tgt := 42) dX11_owing_12 (by decide) (fun h12 => ?_) (fun h12 => ?_)
    · have g12 := nq_le (by omega) (by omega) h12
      refine pE_iload_n dX11_owing_42 rfl rfl ?_
      refine pE_iret dX11_owing_43 rfl rfl ?_
      obtain rfl : j = H 1 := by omega
      exact hq
    · have g12 := nq_nle (by omega) (by omega) h12
      have hb1 := (hr.2.2.2.2 j (by omega)).2.2.2.1
      have hb3 := (hrT.2.2.2.2 j (by omega)).2.1
      have hb4 := (hrT.2.2.2.2 j (by omega)).2.2
      have hb5 := hrT.2.1
      have hb2 : T (16 + j) ≤ 100000000 := by have := Nat.mul_le_mul_left 1000 hb5; omega
      have hlb : lackN H T j ≤ 200000000 := by unfold lackN; omega
      refine pE_aload_n dX11_owing_15 rfl rfl ?_
      refine pE_getR dX11_owing_16 flX11_29 rfl (by first | assumption | rfl) (by first | assumption | rfl) ?_
      refine pE_aload_n dX11_owing_19 rfl rfl ?_
      refine pE_getR dX11_owing_20 flX11_39 rfl (by first | assumption | rfl) (by first | assumption | rfl) ?_
      refine pE_iload_n dX11_owing_23 rfl rfl ?_
      refine pE_callV (d' := 1) (as := [_, _]) dX11_owing_24 lkX11_148 (cwX2_lackOf _ _) ivX2_lackOf ⟨_, rfl, rfl⟩ (by first | assumption | rfl) rfl rfl (Nat.le_of_ble_eq_true rfl) (by decide) pKK ?_
      refine M_X2_lackOf ht (Or.inl rfl) (by omega) (hH.2.2.2.2.2 j (by omega)).2.2.2.1 (hS.2.2.2.2 j (by omega)).2.2 (hS.2.2.2.2 j (by omega)).2.1 hb1 hb2 hb3 ?_
      refine pE_if_le (tgt := 36) dX11_owing_27 (by decide) (fun h27 => ?_) (fun h27 => ?_)
      · have g27 := nq_le0 (by omega) h27
        refine pE_iincN (c0 := 1) (lc' := [_, _, some (.int _)]) dX11_owing_36 rfl rfl rfl rfl ?_
        refine pE_goto (tgt := 4) dX11_owing_39 (by decide) ?_
        refine pE_cg (ih (j + 1) (by omega) (by omega)) ?_ rfl rfl rfl rfl
        first | (simp only [setI, decide_eq_true_eq]; rw [if_pos g27]; done) | (simp only [setI, decide_eq_true_eq]; rw [if_neg (by omega)]; done)
      · have g27 := nq_nle0 (by omega) h27
        refine pE_iload_n dX11_owing_30 rfl rfl ?_
        refine pE_iconst (v := nI 1) dX11_owing_31 rfl ?_
        refine pE_iload_n dX11_owing_32 rfl rfl ?_
        refine pE_ishl dX11_owing_33 ?_
        refine pE_ior dX11_owing_34 ?_
        refine pE_istore_n (lc' := [_, some (.int _), _]) dX11_owing_35 rfl (Nat.le_of_ble_eq_true rfl) rfl rfl ?_
        refine pE_iincN (c0 := 1) (lc' := [_, _, some (.int _)]) dX11_owing_36 rfl rfl rfl rfl ?_
        refine pE_goto (tgt := 4) dX11_owing_39 (by decide) ?_
        refine pE_cg (ih (j + 1) (by omega) (by omega)) ?_ rfl rfl rfl rfl
        first | (simp only [setI, decide_eq_true_eq]; rw [if_pos g27]; done) | (simp only [setI, decide_eq_true_eq]; rw [if_neg (by omega)]; done)
