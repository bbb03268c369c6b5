set_option maxHeartbeats 4000000 in
set_option maxRecDepth 100000 in
theorem M_X2_hasTenant {l : Launch} {X : pX} {t g : Nat} {I : pHI} {J : pHJ} {Q : pQ} {o : Nat} {x : Int32} {H : pN} (ho : isH o) (hn : I o 2 = nI (H 1)) (h8 : H 1 ≤ 8) (h1 : ∀ j, j < H 1 → x = nI j → Q (some (.int (nI 1))) I J (pR t g)) (h0 : (∀ j, j < H 1 → x ≠ nI j) → Q (some (.int (nI 0))) I J (pR t g)) : pM l X yX2_hasTenant mX2_hasTenant 0 [.ref o, .int x] pK pK I J (pR t g) Q := by
  obtain ⟨fHFho0, fHFho1, fHFho2, fHFho3, fHFho4, fHFho5, fHFho6, fHFho7, fHFho8, fHFho9, fHFho10, fHFho11, fHFho12, fHFho13, fHFho14, fHFho15, fHFho16, fHFho17, fHFho18, fHFho19, fHFho20, fHFho21, fHFho22, fHFho23, fHFho24, fHFho25, fHFho26⟩ := HF t g ho
  refine pM_of rfl (fun h => by cases h) rfl pKM (Nat.le_of_ble_eq_true rfl) ?_
  rcases nI_or x with hx | ⟨j, hj, rfl⟩
  · refine pE_iload_n dX2_hasTenant_0 rfl rfl ?_
    refine pE_if_lt (tgt := 22) dX2_hasTenant_1 (by decide) (fun h1' => ?_) (fun h1' => ?_)
    · refine pE_iconst (v := nI 0) dX2_hasTenant_22 rfl ?_
      refine pE_zret dX2_hasTenant_23 rfl (by first | exact Or.inl nI_0 | exact Or.inr nI_1' | assumption) rfl ?_
      exact h0 (fun j hj e => by subst e; exact absurd hx (nI_pos (by omega)))
    · exact absurd hx h1'
  · refine pE_iload_n dX2_hasTenant_0 rfl rfl ?_
    refine pE_if_lt (tgt := 22) dX2_hasTenant_1 (by decide) (fun h1' => ?_) (fun h1' => ?_)
    · exact absurd h1' (nI_pos (by omega))
    · refine pE_iload_n dX2_hasTenant_4 rfl rfl ?_
      refine pE_aload_n dX2_hasTenant_5 rfl rfl ?_
      refine pE_getI dX2_hasTenant_6 flX2_18 rfl (Or.inl rfl) (by first | assumption | rfl) ?_
      rw [hn]
      refine pE_icmp_ge (tgt := 22) dX2_hasTenant_9 (by decide) (fun h9 => ?_) (fun h9 => ?_)
      · have g9 := nq_le (by omega) (by omega) h9
        refine pE_iconst (v := nI 0) dX2_hasTenant_22 rfl ?_
        refine pE_zret dX2_hasTenant_23 rfl (by first | exact Or.inl nI_0 | exact Or.inr nI_1' | assumption) rfl ?_
        first | exact h1 j (by omega) rfl | exact h0 (fun i hi e => by have := nq_eq hj (by omega) e; omega)
      · have g9 := nq_nle (by omega) (by omega) h9
        refine pE_iload_n dX2_hasTenant_12 rfl rfl ?_
        refine pE_bipush (v := nI 8) dX2_hasTenant_13 rfl ?_
        refine pE_icmp_ge (tgt := 22) dX2_hasTenant_15 (by decide) (fun h15 => ?_) (fun h15 => ?_)
        · have g15 := nq_le (by omega) (by omega) h15
          refine pE_iconst (v := nI 0) dX2_hasTenant_22 rfl ?_
          refine pE_zret dX2_hasTenant_23 rfl (by first | exact Or.inl nI_0 | exact Or.inr nI_1' | assumption) rfl ?_
          first | exact h1 j (by omega) rfl | exact h0 (fun i hi e => by have := nq_eq hj (by omega) e; omega)
        · have g15 := nq_nle (by omega) (by omega) h15
          refine pE_iconst (v := nI 1) dX2_hasTenant_18 rfl ?_
          refine pE_goto (tgt := 23) dX2_hasTenant_19 (by decide) ?_
          refine pE_zret dX2_hasTenant_23 rfl (by first | exact Or.inl nI_0 | exact Or.inr nI_1' | assumption) rfl ?_
          first | exact h1 j (by omega) rfl | exact h0 (fun i hi e => by have := nq_eq hj (by omega) e; omega)
set_option maxHeartbeats 4000000 in
set_option maxRecDepth 100000 in
theorem M_X2_lackOf {l : Launch} {X : pX} {t g : Nat} {I : pHI} {J : pHJ} {Q : pQ} {o s j : Nat} {H T : pN} (ho : isH o) (hs : isS s) (hj : j < 8) (e1 : I (o + 4) j = nI (H (32 + j))) (e2 : I (s + 3) j = nI (T (16 + j))) (e3 : I (s + 2) j = nI (T (8 + j))) (b1 : H (32 + j) ≤ 999) (b2 : T (16 + j) ≤ 100000000) (b3 : T (8 + j) ≤ 9999) (hq : Q (some (.int (nI (lackN H T j)))) I J (pR t g)) : pM l X yX2_lackOf mX2_lackOf 1 [.ref o, .ref s, .int (nI j)] pK pK I J (pR t g) Q := by
  obtain ⟨fHFho0, fHFho1, fHFho2, fHFho3, fHFho4, fHFho5, fHFho6, fHFho7, fHFho8, fHFho9, fHFho10, fHFho11, fHFho12, fHFho13, fHFho14, fHFho15, fHFho16, fHFho17, fHFho18, fHFho19, fHFho20, fHFho21, fHFho22, fHFho23, fHFho24, fHFho25, fHFho26⟩ := HF t g ho
  obtain ⟨fSFhs0, fSFhs1, fSFhs2, fSFhs3, fSFhs4, fSFhs5, fSFhs6⟩ := SF t g hs
  refine pM_of rfl (fun h => by cases h) rfl pKM (Nat.le_of_ble_eq_true rfl) ?_
  refine pE_iconst (v := nI 0) dX2_lackOf_0 rfl ?_
  refine pE_aload_n dX2_lackOf_1 rfl rfl ?_
  refine pE_getR dX2_lackOf_2 flX2_31 rfl (by first | assumption | rfl) (by first | assumption | rfl) ?_
  refine pE_iload_n dX2_lackOf_5 rfl rfl ?_
  refine pE_ialoadN dX2_lackOf_6 (by first | assumption | rfl) (by first | assumption | omega) (by omega) ?_
  rw [e1]
  refine pE_aload_n dX2_lackOf_7 rfl rfl ?_
  refine pE_getR dX2_lackOf_8 flX2_72 rfl (by first | assumption | rfl) (by first | assumption | rfl) ?_
  refine pE_iload_n dX2_lackOf_11 rfl rfl ?_
  refine pE_ialoadN dX2_lackOf_12 (by first | assumption | rfl) (by first | assumption | omega) (by omega) ?_
  rw [e2]
  refine pE_iaddN dX2_lackOf_13 ?_
  refine pE_aload_n dX2_lackOf_14 rfl rfl ?_
  refine pE_getR dX2_lackOf_15 flX2_69 rfl (by first | assumption | rfl) (by first | assumption | rfl) ?_
  refine pE_iload_n dX2_lackOf_18 rfl rfl ?_
  refine pE_ialoadN dX2_lackOf_19 (by first | assumption | rfl) (by first | assumption | omega) (by omega) ?_
  rw [e3]
  refine pE_isub dX2_lackOf_20 ?_
  refine pE_max dX2_lackOf_21 lkX2_91 (by decide) (Nat.le_of_ble_eq_true rfl) ?_
  refine pE_iret dX2_lackOf_24 rfl rfl ?_
  refine cgQ (nI_tsub _ _ (by omega) (by omega)) hq
set_option maxHeartbeats 4000000 in
set_option maxRecDepth 100000 in
theorem M_X2_surplusOf {l : Launch} {X : pX} {t g : Nat} {I : pHI} {J : pHJ} {Q : pQ} {o s j : Nat} {H T : pN} (ho : isH o) (hs : isS s) (hj : j < 8) (e1 : I (o + 4) j = nI (H (32 + j))) (e2 : I (s + 3) j = nI (T (16 + j))) (e3 : I (s + 2) j = nI (T (8 + j))) (b1 : H (32 + j) ≤ 999) (b2 : T (16 + j) ≤ 100000000) (b3 : T (8 + j) ≤ 9999) (hq : Q (some (.int (nI (surpN H T j)))) I J (pR t g)) : pM l X yX2_surplusOf mX2_surplusOf 1 [.ref o, .ref s, .int (nI j)] pK pK I J (pR t g) Q := by
  obtain ⟨fHFho0, fHFho1, fHFho2, fHFho3, fHFho4, fHFho5, fHFho6, fHFho7, fHFho8, fHFho9, fHFho10, fHFho11, fHFho12, fHFho13, fHFho14, fHFho15, fHFho16, fHFho17, fHFho18, fHFho19, fHFho20, fHFho21, fHFho22, fHFho23, fHFho24, fHFho25, fHFho26⟩ := HF t g ho
  obtain ⟨fSFhs0, fSFhs1, fSFhs2, fSFhs3, fSFhs4, fSFhs5, fSFhs6⟩ := SF t g hs
  refine pM_of rfl (fun h => by cases h) rfl pKM (Nat.le_of_ble_eq_true rfl) ?_
  refine pE_iconst (v := nI 0) dX2_surplusOf_0 rfl ?_
  refine pE_aload_n dX2_surplusOf_1 rfl rfl ?_
  refine pE_getR dX2_surplusOf_2 flX2_69 rfl (by first | assumption | rfl) (by first | assumption | rfl) ?_
  refine pE_iload_n dX2_surplusOf_5 rfl rfl ?_
  refine pE_ialoadN dX2_surplusOf_6 (by first | assumption | rfl) (by first | assumption | omega) (by omega) ?_
  rw [e3]
  refine pE_aload_n dX2_surplusOf_7 rfl rfl ?_
  refine pE_getR dX2_surplusOf_8 flX2_31 rfl (by first | assumption | rfl) (by first | assumption | rfl) ?_
  refine pE_iload_n dX2_surplusOf_11 rfl rfl ?_
  refine pE_ialoadN dX2_surplusOf_12 (by first | assumption | rfl) (by first | assumption | omega) (by omega) ?_
  rw [e1]
  refine pE_isub dX2_surplusOf_13 ?_
  refine pE_aload_n dX2_surplusOf_14 rfl rfl ?_
  refine pE_getR dX2_surplusOf_15 flX2_72 rfl (by first | assumption | rfl) (by first | assumption | rfl) ?_
  refine pE_iload_n dX2_surplusOf_18 rfl rfl ?_
  refine pE_ialoadN dX2_surplusOf_19 (by first | assumption | rfl) (by first | assumption | omega) (by omega) ?_
  rw [e2]
  refine pE_isub dX2_surplusOf_20 ?_
  refine pE_max dX2_surplusOf_21 lkX2_91 (by decide) (Nat.le_of_ble_eq_true rfl) ?_
  refine pE_iret dX2_surplusOf_24 rfl rfl ?_
  refine cgQ ?_ hq
  rw [show nI (T (8 + j)) - nI (H (32 + j)) - nI (T (16 + j)) = nI (T (8 + j)) - nI (H (32 + j) + T (16 + j)) by rw [← nI_add, Int32.sub_sub], nI_tsub _ _ (by omega) (by omega)]
  unfold surpN
  congr 1
  omega
set_option maxHeartbeats 4000000 in
set_option maxRecDepth 100000 in
theorem M_X2_costOf {l : Launch} {X : pX} {t g : Nat} {I : pHI} {J : pHJ} {Q : pQ} {o j : Nat} {H : pN} (ho : isH o) (hj : j < 8) (e1 : I (o + 1) j = nI (H (8 + j))) (e2 : I (o + 4) j = nI (H (32 + j))) (hq : Q (some (.int (nI (30 * H (8 + j) + H (32 + j))))) I J (pR t g)) : pM l X yX2_costOf mX2_costOf 0 [.ref o, .int (nI j)] pK pK I J (pR t g) Q := by
  obtain ⟨fHFho0, fHFho1, fHFho2, fHFho3, fHFho4, fHFho5, fHFho6, fHFho7, fHFho8, fHFho9, fHFho10, fHFho11, fHFho12, fHFho13, fHFho14, fHFho15, fHFho16, fHFho17, fHFho18, fHFho19, fHFho20, fHFho21, fHFho22, fHFho23, fHFho24, fHFho25, fHFho26⟩ := HF t g ho
  refine pM_of rfl (fun h => by cases h) rfl pKM (Nat.le_of_ble_eq_true rfl) ?_
  refine pE_bipush (v := nI 30) dX2_costOf_0 rfl ?_
  refine pE_aload_n dX2_costOf_2 rfl rfl ?_
  refine pE_getR dX2_costOf_3 flX2_21 rfl (by first | assumption | rfl) (by first | assumption | rfl) ?_
  refine pE_iload_n dX2_costOf_6 rfl rfl ?_
  refine pE_ialoadN dX2_costOf_7 (by first | assumption | rfl) (by first | assumption | omega) (by omega) ?_
  rw [e1]
  refine pE_imulN dX2_costOf_8 ?_
  refine pE_aload_n dX2_costOf_9 rfl rfl ?_
  refine pE_getR dX2_costOf_10 flX2_31 rfl (by first | assumption | rfl) (by first | assumption | rfl) ?_
  refine pE_iload_n dX2_costOf_13 rfl rfl ?_
  refine pE_ialoadN dX2_costOf_14 (by first | assumption | rfl) (by first | assumption | omega) (by omega) ?_
  rw [e2]
  refine pE_iaddN dX2_costOf_15 ?_
  refine pE_iret dX2_costOf_16 rfl rfl ?_
  exact hq
set_option maxHeartbeats 4000000 in
set_option maxRecDepth 100000 in
theorem M_X2_breathFor {l : Launch} {X : pX} {t g : Nat} {I : pHI} {J : pHJ} {Q : pQ} {o s hv : Nat} (ho : isH o) (h1 : s ≤ 1000) (h2 : hv ≤ 1000) (hq : Q (some (.int (nI (brN s hv)))) I J (pR t g)) : pM l X yX2_breathFor mX2_breathFor 0 [.ref o, .int (nI s), .int (nI hv)] pK pK I J (pR t g) Q := by
  obtain ⟨fHFho0, fHFho1, fHFho2, fHFho3, fHFho4, fHFho5, fHFho6, fHFho7, fHFho8, fHFho9, fHFho10, fHFho11, fHFho12, fHFho13, fHFho14, fHFho15, fHFho16, fHFho17, fHFho18, fHFho19, fHFho20, fHFho21, fHFho22, fHFho23, fHFho24, fHFho25, fHFho26⟩ := HF t g ho
  refine pM_of rfl (fun h => by cases h) rfl pKM (Nat.le_of_ble_eq_true rfl) ?_
  refine pE_iload_n dX2_breathFor_0 rfl rfl ?_
  refine pE_iconst (v := nI 1) dX2_breathFor_1 rfl ?_
  refine pE_iload_n dX2_breathFor_2 rfl rfl ?_
  refine pE_iconst (v := nI 3) dX2_breathFor_3 rfl ?_
  refine pE_idivN dX2_breathFor_4 (by omega) (by omega) (by omega) ?_
  refine pE_iaddN dX2_breathFor_5 ?_
  refine pE_imulN dX2_breathFor_6 ?_
  refine pE_iret dX2_breathFor_7 rfl rfl ?_
  exact hq
