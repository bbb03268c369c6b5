set_option maxHeartbeats 4000000 in
set_option maxRecDepth 100000 in
theorem L_X12_load {l : Launch} {X : pX} {t g : Nat} {I : pHI} {J : pHJ} {Q : pQ}  (hq : Q none (pz I 91 (fun q => if q < 28 then I 90 q else I 91 q)) J (pR t g)) : ∀ (n j : Nat), 28 - j < n → j ≤ 28 → pE l X mX12_load 0 pK 2 [some (.ref 67), some (.int (nI j))] [] pK (pz I 91 (fun q => if q < j then I 90 q else I 91 q)) J (pR t g) Q := by
  intro n
  induction n with
  | zero => intro j hn hj; exact absurd hn (Nat.not_lt_zero _)
  | succ n ih =>
    intro j hn hj
    refine pE_iload_n dX12_load_2 rfl rfl ?_
    refine pE_bipush (v := nI 28) dX12_load_3 rfl ?_
    refine pE_icmp_ge (tgt := 26) dX12_load_5 (by decide) (fun h5 => ?_) (fun h5 => ?_)
    · have g5 := nq_le (by omega) (by omega) h5
      refine pE_vret dX12_load_26 rfl rfl ?_
      obtain rfl : j = 28 := by omega
      exact hq
    · have g5 := nq_nle (by omega) (by omega) h5
      refine pE_aload_n dX12_load_8 rfl rfl ?_
      refine pE_getR dX12_load_9 flX12_88 rfl (by first | assumption | rfl) (by first | assumption | rfl) ?_
      refine pE_iload_n dX12_load_12 rfl rfl ?_
      refine pE_aload_n dX12_load_13 rfl rfl ?_
      refine pE_getR dX12_load_14 flX12_85 rfl (by first | assumption | rfl) (by first | assumption | rfl) ?_
      refine pE_iload_n dX12_load_17 rfl rfl ?_
      refine pE_ialoadN dX12_load_18 (by first | assumption | rfl) (by first | assumption | omega) (by omega) ?_
      refine pE_iastoreN dX12_load_19 (by first | assumption | rfl) (by first | assumption | omega) (by omega) ?_
      refine pE_iincN (c0 := 1) (lc' := [_, some (.int _)]) dX12_load_20 rfl rfl rfl rfl ?_
      refine pE_goto (tgt := 2) dX12_load_23 (by decide) ?_
      refine pE_cg (ih (j + 1) (by omega) (by omega)) rfl rfl (lp_fill (a := I 90) (b := I 91) (by rw [pz_ne _ _ (by decide)])) rfl rfl
set_option maxHeartbeats 4000000 in
set_option maxRecDepth 100000 in
theorem M_X12_load {l : Launch} {X : pX} {t g : Nat} {I : pHI} {J : pHJ} {Q : pQ}  (hq : Q none (pz I 91 (fun q => if q < 28 then I 90 q else I 91 q)) J (pR t g)) : pM l X yX12_load mX12_load 0 [.ref 67] pK pK I J (pR t g) Q := by
  refine pM_of rfl (fun h => by cases h) rfl pKM (Nat.le_of_ble_eq_true rfl) ?_
  refine pE_iconst (v := nI 0) dX12_load_0 rfl ?_
  refine pE_istore_n (lc' := [_, some (.int _)]) dX12_load_1 rfl (Nat.le_of_ble_eq_true rfl) rfl rfl ?_
  refine pE_cg (L_X12_load hq 29 0 (by omega) (by omega)) rfl rfl (lp_fill0 I 91 (I 90)) rfl rfl
set_option maxHeartbeats 4000000 in
set_option maxRecDepth 100000 in
theorem L_X12_keepAir {l : Launch} {X : pX} {t g : Nat} {I : pHI} {J : pHJ} {Q : pQ}  (hq : Q none (pz I 90 (fun q => if q < 28 then I 91 q else I 90 q)) J (pR t g)) : ∀ (n j : Nat), 28 - j < n → j ≤ 28 → pE l X mX12_keepAir 0 pK 2 [some (.ref 67), some (.int (nI j))] [] pK (pz I 90 (fun q => if q < j then I 91 q else I 90 q)) J (pR t g) Q := by
  intro n
  induction n with
  | zero => intro j hn hj; exact absurd hn (Nat.not_lt_zero _)
  | succ n ih =>
    intro j hn hj
    refine pE_iload_n dX12_keepAir_2 rfl rfl ?_
    refine pE_bipush (v := nI 28) dX12_keepAir_3 rfl ?_
    refine pE_icmp_ge (tgt := 26) dX12_keepAir_5 (by decide) (fun h5 => ?_) (fun h5 => ?_)
    · have g5 := nq_le (by omega) (by omega) h5
      refine pE_vret dX12_keepAir_26 rfl rfl ?_
      obtain rfl : j = 28 := by omega
      exact hq
    · have g5 := nq_nle (by omega) (by omega) h5
      refine pE_aload_n dX12_keepAir_8 rfl rfl ?_
      refine pE_getR dX12_keepAir_9 flX12_85 rfl (by first | assumption | rfl) (by first | assumption | rfl) ?_
      refine pE_iload_n dX12_keepAir_12 rfl rfl ?_
      refine pE_aload_n dX12_keepAir_13 rfl rfl ?_
      refine pE_getR dX12_keepAir_14 flX12_88 rfl (by first | assumption | rfl) (by first | assumption | rfl) ?_
      refine pE_iload_n dX12_keepAir_17 rfl rfl ?_
      refine pE_ialoadN dX12_keepAir_18 (by first | assumption | rfl) (by first | assumption | omega) (by omega) ?_
      refine pE_iastoreN dX12_keepAir_19 (by first | assumption | rfl) (by first | assumption | omega) (by omega) ?_
      refine pE_iincN (c0 := 1) (lc' := [_, some (.int _)]) dX12_keepAir_20 rfl rfl rfl rfl ?_
      refine pE_goto (tgt := 2) dX12_keepAir_23 (by decide) ?_
      refine pE_cg (ih (j + 1) (by omega) (by omega)) rfl rfl (lp_fill (a := I 91) (b := I 90) (by rw [pz_ne _ _ (by decide)])) rfl rfl
set_option maxHeartbeats 4000000 in
set_option maxRecDepth 100000 in
theorem M_X12_keepAir {l : Launch} {X : pX} {t g : Nat} {I : pHI} {J : pHJ} {Q : pQ}  (hq : Q none (pz I 90 (fun q => if q < 28 then I 91 q else I 90 q)) J (pR t g)) : pM l X yX12_keepAir mX12_keepAir 0 [.ref 67] pK pK I J (pR t g) Q := by
  refine pM_of rfl (fun h => by cases h) rfl pKM (Nat.le_of_ble_eq_true rfl) ?_
  refine pE_iconst (v := nI 0) dX12_keepAir_0 rfl ?_
  refine pE_istore_n (lc' := [_, some (.int _)]) dX12_keepAir_1 rfl (Nat.le_of_ble_eq_true rfl) rfl rfl ?_
  refine pE_cg (L_X12_keepAir hq 29 0 (by omega) (by omega)) rfl rfl (lp_fill0 I 90 (I 91)) rfl rfl
set_option maxHeartbeats 4000000 in
set_option maxRecDepth 100000 in
theorem M_X12_isIn {l : Launch} {X : pX} {t g : Nat} {I : pHI} {J : pHJ} {Q : pQ} {x a b : Int32} (h1 : ¬ x < a → ¬ b < x → Q (some (.int (nI 1))) I J (pR t g)) (h0 : (x < a ∨ b < x) → Q (some (.int (nI 0))) I J (pR t g)) : pM l X yX12_isIn mX12_isIn 0 [.int x, .int a, .int b] pK pK I J (pR t g) Q := by
  refine pM_of rfl (fun h => by cases h) rfl pKM (Nat.le_of_ble_eq_true rfl) ?_
  refine pE_iload_n dX12_isIn_0 rfl rfl ?_
  refine pE_iload_n dX12_isIn_1 rfl rfl ?_
  refine pE_icmp_lt (tgt := 14) dX12_isIn_2 (by decide) (fun h2 => ?_) (fun h2 => ?_)
  · refine pE_iconst (v := nI 0) dX12_isIn_14 rfl ?_
    refine pE_zret dX12_isIn_15 rfl (by first | exact Or.inl nI_0 | exact Or.inr nI_1' | assumption) rfl ?_
    first | exact h1 (by assumption) (by assumption) | exact h0 (Or.inl (by assumption)) | exact h0 (Or.inr (by assumption))
  · refine pE_iload_n dX12_isIn_5 rfl rfl ?_
    refine pE_iload_n dX12_isIn_6 rfl rfl ?_
    refine pE_icmp_gt (tgt := 14) dX12_isIn_7 (by decide) (fun h7 => ?_) (fun h7 => ?_)
    · refine pE_iconst (v := nI 0) dX12_isIn_14 rfl ?_
      refine pE_zret dX12_isIn_15 rfl (by first | exact Or.inl nI_0 | exact Or.inr nI_1' | assumption) rfl ?_
      first | exact h1 (by assumption) (by assumption) | exact h0 (Or.inl (by assumption)) | exact h0 (Or.inr (by assumption))
    · refine pE_iconst (v := nI 1) dX12_isIn_10 rfl ?_
      refine pE_goto (tgt := 15) dX12_isIn_11 (by decide) ?_
      refine pE_zret dX12_isIn_15 rfl (by first | exact Or.inl nI_0 | exact Or.inr nI_1' | assumption) rfl ?_
      first | exact h1 (by assumption) (by assumption) | exact h0 (Or.inl (by assumption)) | exact h0 (Or.inr (by assumption))
set_option maxHeartbeats 4000000 in
set_option maxRecDepth 100000 in
theorem M_X12_isTenant {l : Launch} {X : pX} {t g : Nat} {I : pHI} {J : pHJ} {Q : pQ} {x : Int32} {H : pN} (hn : I 67 42 = nI (H 1)) (h8 : H 1 ≤ 8) (h1 : ∀ j, j < H 1 → x = nI j → Q (some (.int (nI 1))) I J (pR t g)) (h0 : (∀ j, j < H 1 → x ≠ nI j) → Q (some (.int (nI 0))) I J (pR t g)) : pM l X yX12_isTenant mX12_isTenant 1 [.ref 67, .int x] pK pK I J (pR t g) Q := by
  refine pM_of rfl (fun h => by cases h) rfl pKM (Nat.le_of_ble_eq_true rfl) ?_
  refine pE_iload_n dX12_isTenant_0 rfl rfl ?_
  refine pE_iconst (v := nI 0) dX12_isTenant_1 rfl ?_
  refine pE_aload_n dX12_isTenant_2 rfl rfl ?_
  refine pE_getI dX12_isTenant_3 flX12_350 rfl (Or.inl rfl) (by first | assumption | rfl) ?_
  rw [hn]
  refine pE_iconst (v := nI 1) dX12_isTenant_6 rfl ?_
  refine pE_isub dX12_isTenant_7 ?_
  refine pE_callS (d' := 0) (as := [_, _, _]) dX12_isTenant_8 lkX12_368 (cwX12_isIn _ _) svX12_isIn rfl rfl (Nat.le_of_ble_eq_true rfl) (by decide) pKK ?_
  refine M_X12_isIn  (fun k1 k2 => ?_) (fun k => ?_)
  · refine pE_zret dX12_isTenant_11 rfl (by first | exact Or.inl nI_0 | exact Or.inr nI_1' | assumption) rfl ?_
    first | (rcases in_tn h8 k1 k2 with ⟨j, hj, e⟩; exact h1 j hj e) | exact h0 (out_tn h8 k)
  · refine pE_zret dX12_isTenant_11 rfl (by first | exact Or.inl nI_0 | exact Or.inr nI_1' | assumption) rfl ?_
    first | (rcases in_tn h8 k1 k2 with ⟨j, hj, e⟩; exact h1 j hj e) | exact h0 (out_tn h8 k)
set_option maxHeartbeats 4000000 in
set_option maxRecDepth 100000 in
theorem M_X12_dueOf {l : Launch} {X : pX} {t g : Nat} {I : pHI} {J : pHJ} {Q : pQ} {j : Nat} {H T : pN} (e1 : I 88 j = nI (H (32 + j))) (e2 : I 91 (16 + j) = nI (T (16 + j))) (hj : j < 8) (hq : Q (some (.int (nI (H (32 + j) + T (16 + j))))) I J (pR t g)) : pM l X yX12_dueOf mX12_dueOf 0 [.ref 67, .int (nI j)] pK pK I J (pR t g) Q := by
  refine pM_of rfl (fun h => by cases h) rfl pKM (Nat.le_of_ble_eq_true rfl) ?_
  refine pE_aload_n dX12_dueOf_0 rfl rfl ?_
  refine pE_getR dX12_dueOf_1 flX12_76 rfl (by first | assumption | rfl) (by first | assumption | rfl) ?_
  refine pE_iload_n dX12_dueOf_4 rfl rfl ?_
  refine pE_ialoadN dX12_dueOf_5 (by first | assumption | rfl) (by first | assumption | omega) (by omega) ?_
  rw [e1]
  refine pE_aload_n dX12_dueOf_6 rfl rfl ?_
  refine pE_getR dX12_dueOf_7 flX12_88 rfl (by first | assumption | rfl) (by first | assumption | rfl) ?_
  refine pE_bipush (v := nI 16) dX12_dueOf_10 rfl ?_
  refine pE_iload_n dX12_dueOf_12 rfl rfl ?_
  refine pE_iaddN dX12_dueOf_13 ?_
  refine pE_ialoadN dX12_dueOf_14 (by first | assumption | rfl) (by first | assumption | omega) (by omega) ?_
  rw [e2]
  refine pE_iaddN dX12_dueOf_15 ?_
  refine pE_iret dX12_dueOf_16 rfl rfl ?_
  exact hq
set_option maxHeartbeats 4000000 in
set_option maxRecDepth 100000 in
theorem M_X12_lackOf {l : Launch} {X : pX} {t g : Nat} {I : pHI} {J : pHJ} {Q : pQ} {j : Nat} {H T : pN} (e1 : I 88 j = nI (H (32 + j))) (e2 : I 91 (16 + j) = nI (T (16 + j))) (e3 : I 91 (8 + j) = nI (T (8 + j))) (hj : j < 8) (b1 : H (32 + j) ≤ 999) (b2 : T (16 + j) ≤ 100000000) (b3 : T (8 + j) ≤ 9999) (hq : Q (some (.int (nI (lackN H T j)))) I J (pR t g)) : pM l X yX12_lackOf mX12_lackOf 1 [.ref 67, .int (nI j)] pK pK I J (pR t g) Q := by
  refine pM_of rfl (fun h => by cases h) rfl pKM (Nat.le_of_ble_eq_true rfl) ?_
  refine pE_aload_n dX12_lackOf_0 rfl rfl ?_
  refine pE_iload_n dX12_lackOf_1 rfl rfl ?_
  refine pE_callV (d' := 0) (as := [_]) dX12_lackOf_2 lkX12_372 (cwX12_dueOf _ _) ivX12_dueOf ⟨_, rfl, rfl⟩ (by first | assumption | rfl) rfl rfl (Nat.le_of_ble_eq_true rfl) (by decide) pKK ?_
  refine M_X12_dueOf e1 e2 hj ?_
  refine pE_aload_n dX12_lackOf_5 rfl rfl ?_
  refine pE_getR dX12_lackOf_6 flX12_88 rfl (by first | assumption | rfl) (by first | assumption | rfl) ?_
  refine pE_bipush (v := nI 8) dX12_lackOf_9 rfl ?_
  refine pE_iload_n dX12_lackOf_11 rfl rfl ?_
  refine pE_iaddN dX12_lackOf_12 ?_
  refine pE_ialoadN dX12_lackOf_13 (by first | assumption | rfl) (by first | assumption | omega) (by omega) ?_
  rw [e3]
  refine pE_icmp_le (tgt := 35) dX12_lackOf_14 (by decide) (fun h14 => ?_) (fun h14 => ?_)
  · have g14 := nq_le (by omega) (by omega) h14
    refine pE_iconst (v := nI 0) dX12_lackOf_35 rfl ?_
    refine pE_iret dX12_lackOf_36 rfl rfl ?_
    first | exact hq | exact cgQ (by unfold lackN; congr 1; omega) hq
  · have g14 := nq_nle (by omega) (by omega) h14
    refine pE_aload_n dX12_lackOf_17 rfl rfl ?_
    refine pE_iload_n dX12_lackOf_18 rfl rfl ?_
    refine pE_callV (d' := 0) (as := [_]) dX12_lackOf_19 lkX12_372 (cwX12_dueOf _ _) ivX12_dueOf ⟨_, rfl, rfl⟩ (by first | assumption | rfl) rfl rfl (Nat.le_of_ble_eq_true rfl) (by decide) pKK ?_
    refine M_X12_dueOf e1 e2 hj ?_
    refine pE_aload_n dX12_lackOf_22 rfl rfl ?_
    refine pE_getR dX12_lackOf_23 flX12_88 rfl (by first | assumption | rfl) (by first | assumption | rfl) ?_
    refine pE_bipush (v := nI 8) dX12_lackOf_26 rfl ?_
    refine pE_iload_n dX12_lackOf_28 rfl rfl ?_
    refine pE_iaddN dX12_lackOf_29 ?_
    refine pE_ialoadN dX12_lackOf_30 (by first | assumption | rfl) (by first | assumption | omega) (by omega) ?_
    rw [e3]
    refine pE_isubN dX12_lackOf_31 (by omega) ?_
    refine pE_goto (tgt := 36) dX12_lackOf_32 (by decide) ?_
    refine pE_iret dX12_lackOf_36 rfl rfl ?_
    first | exact hq | exact cgQ (by unfold lackN; congr 1; omega) hq
set_option maxHeartbeats 4000000 in
set_option maxRecDepth 100000 in
theorem M_X12_breathFor_0 {l : Launch} {X : pX} {t g : Nat} {I : pHI} {J : pHJ} {Q : pQ} {s : Nat}  (hq : Q (some (.int (nI (brN s 0)))) I J (pR t g)) : pM l X yX12_breathFor mX12_breathFor 0 [.ref 67, .int (nI s), .int (-1)] pK pK I J (pR t g) Q := by
  refine pM_of rfl (fun h => by cases h) rfl pKM (Nat.le_of_ble_eq_true rfl) ?_
  refine pE_iload_n dX12_breathFor_0 rfl rfl ?_
  refine pE_if_ge (tgt := 8) dX12_breathFor_1 (by decide) (fun k1 => ?_) (fun k1 => ?_)
  · exact absurd k1 (by decide)
  · refine pE_iload_n dX12_breathFor_4 rfl rfl ?_
    refine pE_goto (tgt := 20) dX12_breathFor_5 (by decide) ?_
    refine pE_iret dX12_breathFor_20 rfl rfl ?_
    exact cgQ (by simp [brN]) hq
set_option maxHeartbeats 4000000 in
set_option maxRecDepth 100000 in
theorem M_X12_breathFor_c {l : Launch} {X : pX} {t g : Nat} {I : pHI} {J : pHJ} {Q : pQ} {s i : Nat} {H : pN} (hi : i < 8) (e : I 87 i = nI (H (24 + i))) (b : H (24 + i) ≤ 9) (hq : Q (some (.int (nI (brN s (H (24 + i)))))) I J (pR t g)) : pM l X yX12_breathFor mX12_breathFor 0 [.ref 67, .int (nI s), .int (nI i)] pK pK I J (pR t g) Q := by
  refine pM_of rfl (fun h => by cases h) rfl pKM (Nat.le_of_ble_eq_true rfl) ?_
  refine pE_iload_n dX12_breathFor_0 rfl rfl ?_
  refine pE_if_ge (tgt := 8) dX12_breathFor_1 (by decide) (fun k1 => ?_) (fun k1 => ?_)
  · refine pE_iload_n dX12_breathFor_8 rfl rfl ?_
    refine pE_iconst (v := nI 1) dX12_breathFor_9 rfl ?_
    refine pE_aload_n dX12_breathFor_10 rfl rfl ?_
    refine pE_getR dX12_breathFor_11 flX12_73 rfl (by first | assumption | rfl) (by first | assumption | rfl) ?_
    refine pE_iload_n dX12_breathFor_14 rfl rfl ?_
    refine pE_ialoadN dX12_breathFor_15 (by first | assumption | rfl) (by first | assumption | omega) (by omega) ?_
    rw [e]
    refine pE_iconst (v := nI 3) dX12_breathFor_16 rfl ?_
    refine pE_idivN dX12_breathFor_17 (by omega) (by omega) (by omega) ?_
    refine pE_iaddN dX12_breathFor_18 ?_
    refine pE_imulN dX12_breathFor_19 ?_
    refine pE_iret dX12_breathFor_20 rfl rfl ?_
    exact hq
  · exact absurd k1 (not_not_intro (nI_pos' (by omega)))
set_option maxHeartbeats 4000000 in
set_option maxRecDepth 100000 in
theorem M_X12_countOf_0 {l : Launch} {X : pX} {t g : Nat} {I : pHI} {J : pHJ} {Q : pQ} {s nt : Nat} {T : pN} {p : pP} (hF : mF 0 p I) (hw : p = [] ∨ wfp p 0) (hT : mS 91 T I)  (hq : ∀ I1, sb I I1 → Q (some (.int (nI (clp (if p = [] then nI (10 * s) else ev p (inp (nI s) (nI (0)) (nI nt) T (T 24))) 999)))) I1 J (pR t g)) : pM l X yX12_countOf mX12_countOf 3 [.ref 67, .int (nI s), .int (-1), .int (nI nt)] pK pK I J (pR t g) Q := by
  refine pM_of rfl (fun h => by cases h) rfl pKM (Nat.le_of_ble_eq_true rfl) ?_
  refine pE_aload_n dX12_countOf_0 rfl rfl ?_
  refine pE_iconst (v := nI 0) dX12_countOf_1 rfl ?_
  refine pE_iload_n dX12_countOf_2 rfl rfl ?_
  refine pE_iload_n dX12_countOf_3 rfl rfl ?_
  refine pE_if_ge (tgt := 11) dX12_countOf_4 (by decide) (fun k4 => ?_) (fun k4 => ?_)
  · exact absurd k4 (by decide)
  · refine pE_iconst (v := nI 0) dX12_countOf_7 rfl ?_
    refine pE_goto (tgt := 17) dX12_countOf_8 (by decide) ?_
    refine pE_iload_n dX12_countOf_17 rfl rfl ?_
    refine pE_bipush (v := nI 10) dX12_countOf_18 rfl ?_
    refine pE_iload_n dX12_countOf_20 rfl rfl ?_
    refine pE_imulN dX12_countOf_21 ?_
    refine pE_callV (d' := 2) (as := [_, _, _, _, _]) dX12_countOf_22 lkX12_375 (cwX12_worked _ _) ivX12_worked ⟨_, rfl, rfl⟩ (by first | assumption | rfl) rfl rfl (Nat.le_of_ble_eq_true rfl) (by decide) pKK ?_
    refine M_X12_worked (x := inp (nI s) (nI (0)) (nI nt) T (T 24)) (by omega) hF hw (hT 26 (by omega)) (hT 24 (by omega)) (hT 25 (by omega)) (fun I1 hb => ?_)
    refine pE_sipush (v := nI 999) dX12_countOf_25 rfl ?_
    refine pE_callS (d' := 0) (as := [_, _]) dX12_countOf_28 lkX12_379 (cwX12_within _ _) svX12_within rfl rfl (Nat.le_of_ble_eq_true rfl) (by decide) pKK ?_
    refine M_X12_within (by omega) ?_
    refine pE_iret dX12_countOf_31 rfl rfl ?_
    exact hq _ hb
set_option maxHeartbeats 4000000 in
set_option maxRecDepth 100000 in
theorem M_X12_countOf_c {l : Launch} {X : pX} {t g : Nat} {I : pHI} {J : pHJ} {Q : pQ} {s i nt : Nat} {H T : pN} {p : pP} (hF : mF 0 p I) (hw : p = [] ∨ wfp p 0) (hT : mS 91 T I) (hi : i < 8) (e : I 87 i = nI (H (24 + i))) (hq : ∀ I1, sb I I1 → Q (some (.int (nI (clp (if p = [] then nI (10 * s) else ev p (inp (nI s) (nI (H (24 + i))) (nI nt) T (T 24))) 999)))) I1 J (pR t g)) : pM l X yX12_countOf mX12_countOf 3 [.ref 67, .int (nI s), .int (nI i), .int (nI nt)] pK pK I J (pR t g) Q := by
  refine pM_of rfl (fun h => by cases h) rfl pKM (Nat.le_of_ble_eq_true rfl) ?_
  refine pE_aload_n dX12_countOf_0 rfl rfl ?_
  refine pE_iconst (v := nI 0) dX12_countOf_1 rfl ?_
  refine pE_iload_n dX12_countOf_2 rfl rfl ?_
  refine pE_iload_n dX12_countOf_3 rfl rfl ?_
  refine pE_if_ge (tgt := 11) dX12_countOf_4 (by decide) (fun k4 => ?_) (fun k4 => ?_)
  · refine pE_aload_n dX12_countOf_11 rfl rfl ?_
    refine pE_getR dX12_countOf_12 flX12_73 rfl (by first | assumption | rfl) (by first | assumption | rfl) ?_
    refine pE_iload_n dX12_countOf_15 rfl rfl ?_
    refine pE_ialoadN dX12_countOf_16 (by first | assumption | rfl) (by first | assumption | omega) (by omega) ?_
    rw [e]
    refine pE_iload_n dX12_countOf_17 rfl rfl ?_
    refine pE_bipush (v := nI 10) dX12_countOf_18 rfl ?_
    refine pE_iload_n dX12_countOf_20 rfl rfl ?_
    refine pE_imulN dX12_countOf_21 ?_
    refine pE_callV (d' := 2) (as := [_, _, _, _, _]) dX12_countOf_22 lkX12_375 (cwX12_worked _ _) ivX12_worked ⟨_, rfl, rfl⟩ (by first | assumption | rfl) rfl rfl (Nat.le_of_ble_eq_true rfl) (by decide) pKK ?_
    refine M_X12_worked (x := inp (nI s) (nI (H (24 + i))) (nI nt) T (T 24)) (by omega) hF hw (hT 26 (by omega)) (hT 24 (by omega)) (hT 25 (by omega)) (fun I1 hb => ?_)
    refine pE_sipush (v := nI 999) dX12_countOf_25 rfl ?_
    refine pE_callS (d' := 0) (as := [_, _]) dX12_countOf_28 lkX12_379 (cwX12_within _ _) svX12_within rfl rfl (Nat.le_of_ble_eq_true rfl) (by decide) pKK ?_
    refine M_X12_within (by omega) ?_
    refine pE_iret dX12_countOf_31 rfl rfl ?_
    exact hq _ hb
  · exact absurd k4 (not_not_intro (nI_pos' (by omega)))
set_option maxHeartbeats 4000000 in
set_option maxRecDepth 100000 in
theorem L_X12_allHeavy {l : Launch} {X : pX} {t g : Nat} {I : pHI} {J : pHJ} {Q : pQ} {H : pN} (hH : mH H I) (hr : rH H) (hq : Q (some (.int (nI (hvAll H)))) I J (pR t g)) : ∀ (n j : Nat), H 1 - j < n → j ≤ H 1 → pE l X mX12_allHeavy 0 pK 4 [some (.ref 67), some (.int (nI (sumN (fun j => H (24 + j)) j))), some (.int (nI j))] [] pK I J (pR t g) Q := by
  intro n
  induction n with
  | zero => intro j hn hj; exact absurd hn (Nat.not_lt_zero _)
  | succ n ih =>
    intro j hn hj
    have hn8 := hr.2.1
    refine pE_iload_n dX12_allHeavy_4 rfl rfl ?_
    refine pE_aload_n dX12_allHeavy_5 rfl rfl ?_
    refine pE_getI dX12_allHeavy_6 flX12_350 rfl (Or.inl rfl) (by first | assumption | rfl) ?_
    rw [hH.2.1]
    refine pE_icmp_ge (tgt := 27) dX12_allHeavy_9 (by decide) (fun h9 => ?_) (fun h9 => ?_)
    · have g9 := nq_le (by omega) (by omega) h9
      refine pE_iload_n dX12_allHeavy_27 rfl rfl ?_
      refine pE_iret dX12_allHeavy_28 rfl rfl ?_
      obtain rfl : j = H 1 := by omega
      exact hq
    · have g9 := nq_nle (by omega) (by omega) h9
      refine pE_iload_n dX12_allHeavy_12 rfl rfl ?_
      refine pE_aload_n dX12_allHeavy_13 rfl rfl ?_
      refine pE_getR dX12_allHeavy_14 flX12_73 rfl (by first | assumption | rfl) (by first | assumption | rfl) ?_
      refine pE_iload_n dX12_allHeavy_17 rfl rfl ?_
      refine pE_ialoadN dX12_allHeavy_18 (by first | assumption | rfl) (by first | assumption | omega) (by omega) ?_
      rw [(hH.2.2.2 j (by omega)).2.2.1]
      refine pE_iaddN dX12_allHeavy_19 ?_
      refine pE_istore_n (lc' := [_, some (.int _), _]) dX12_allHeavy_20 rfl (Nat.le_of_ble_eq_true rfl) rfl rfl ?_
      refine pE_iincN (c0 := 1) (lc' := [_, _, some (.int _)]) dX12_allHeavy_21 rfl rfl rfl rfl ?_
      refine pE_goto (tgt := 4) dX12_allHeavy_24 (by decide) ?_
      exact ih (j + 1) (by omega) (by omega)
set_option maxHeartbeats 4000000 in
set_option maxRecDepth 100000 in
theorem M_X12_allHeavy {l : Launch} {X : pX} {t g : Nat} {I : pHI} {J : pHJ} {Q : pQ} {H : pN} (hH : mH H I) (hr : rH H) (hq : Q (some (.int (nI (hvAll H)))) I J (pR t g)) : pM l X yX12_allHeavy mX12_allHeavy 0 [.ref 67] pK pK I J (pR t g) Q := by
  refine pM_of rfl (fun h => by cases h) rfl pKM (Nat.le_of_ble_eq_true rfl) ?_
  refine pE_iconst (v := nI 0) dX12_allHeavy_0 rfl ?_
  refine pE_istore_n (lc' := [_, some (.int _), _]) dX12_allHeavy_1 rfl (Nat.le_of_ble_eq_true rfl) rfl rfl ?_
  refine pE_iconst (v := nI 0) dX12_allHeavy_2 rfl ?_
  refine pE_istore_n (lc' := [_, _, some (.int _)]) dX12_allHeavy_3 rfl (Nat.le_of_ble_eq_true rfl) rfl rfl ?_
  exact L_X12_allHeavy hH hr hq (H 1 + 1) 0 (by omega) (by omega)
set_option maxHeartbeats 4000000 in
set_option maxRecDepth 100000 in
theorem M_X12_pullHere {l : Launch} {X : pX} {t g : Nat} {I : pHI} {J : pHJ} {Q : pQ} {H T : pN} {p : pP} (hH : mH H I) (hr : rH H) (hF : mF 1 p I) (hw : p = [] ∨ wfp p 0) (hT : mS 91 T I) (hq : ∀ I1, sb I I1 → Q (some (.int (if p = [] then nI (T 24) / nI 10 else pullV p H T (T 24)))) I1 J (pR t g)) : pM l X yX12_pullHere mX12_pullHere 3 [.ref 67] pK pK I J (pR t g) Q := by
  refine pM_of rfl (fun h => by cases h) rfl pKM (Nat.le_of_ble_eq_true rfl) ?_
  refine pE_aload_n dX12_pullHere_0 rfl rfl ?_
  refine pE_iconst (v := nI 1) dX12_pullHere_1 rfl ?_
  refine pE_aload_n dX12_pullHere_2 rfl rfl ?_
  refine pE_getI dX12_pullHere_3 flX12_82 rfl (Or.inl rfl) (by first | assumption | rfl) ?_
  rw [hH.1]
  refine pE_aload_n dX12_pullHere_6 rfl rfl ?_
  refine pE_callV (d' := 0) (as := []) dX12_pullHere_7 lkX12_388 (cwX12_allHeavy _ _) ivX12_allHeavy ⟨_, rfl, rfl⟩ (by first | assumption | rfl) rfl rfl (Nat.le_of_ble_eq_true rfl) (by decide) pKK ?_
  refine M_X12_allHeavy hH hr ?_
  refine pE_iconst (v := nI 0) dX12_pullHere_10 rfl ?_
  refine pE_aload_n dX12_pullHere_11 rfl rfl ?_
  refine pE_getR dX12_pullHere_12 flX12_88 rfl (by first | assumption | rfl) (by first | assumption | rfl) ?_
  refine pE_bipush (v := nI 24) dX12_pullHere_15 rfl ?_
  refine pE_ialoadN dX12_pullHere_17 (by first | assumption | rfl) (by first | assumption | omega) (by omega) ?_
  rw [hT 24 (by omega)]
  refine pE_bipush (v := nI 10) dX12_pullHere_18 rfl ?_
  refine pE_idiv dX12_pullHere_20 (by decide +kernel) ?_
  refine pE_callV (d' := 2) (as := [_, _, _, _, _]) dX12_pullHere_21 lkX12_375 (cwX12_worked _ _) ivX12_worked ⟨_, rfl, rfl⟩ (by first | assumption | rfl) rfl rfl (Nat.le_of_ble_eq_true rfl) (by decide) pKK ?_
  refine M_X12_worked (x := inp (nI (H 0)) (nI (hvAll H)) (nI 0) T (T 24)) (by omega) hF hw (hT 26 (by omega)) (hT 24 (by omega)) (hT 25 (by omega)) (fun I1 hb => ?_)
  refine pE_iret dX12_pullHere_24 rfl rfl ?_
  exact hq _ hb
