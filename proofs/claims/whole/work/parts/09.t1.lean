set_option maxHeartbeats 4000000 in
set_option maxRecDepth 100000 in
theorem M_X2_lackOf {l : Launch} {X : pX} {t g : Nat} {I : pHI} {J : pHJ} {Q : pQ} {o s : Nat} {x : Int32} (ho : isH o) (hs : isS s) (hx : vp_in x 8) (hq : Q (some (.int (if 0 < I (o + 4) x.toNatClampNeg + I (s + 3) x.toNatClampNeg - I (s + 2) x.toNatClampNeg then I (o + 4) x.toNatClampNeg + I (s + 3) x.toNatClampNeg - I (s + 2) x.toNatClampNeg else 0))) I J (pR t g)) : pM l X yX2_lackOf mX2_lackOf 1 [.ref o, .ref s, .int x] pK pK I J (pR t g) Q := by
  obtain ⟨fHF_ho0, fHF_ho1, fHF_ho2, fHF_ho3, fHF_ho4, fHF_ho5, fHF_ho6, fHF_ho7, fHF_ho8, fHF_ho9, fHF_ho10, fHF_ho11, fHF_ho12, fHF_ho13, fHF_ho14, fHF_ho15, fHF_ho16, fHF_ho17, fHF_ho18, fHF_ho19, fHF_ho20, fHF_ho21, fHF_ho22, fHF_ho23, fHF_ho24, fHF_ho25, fHF_ho26⟩ := HF t g ho
  obtain ⟨fSF_hs0, fSF_hs1, fSF_hs2, fSF_hs3, fSF_hs4, fSF_hs5, fSF_hs6⟩ := SF t g hs
  refine pM_of rfl (fun h => by cases h) rfl pKM (Nat.le_of_ble_eq_true rfl) ?_
  refine pE_iconst (v := 0) dX2_lackOf_0 rfl ?_
  refine pE_aload_n dX2_lackOf_1 rfl rfl ?_
  refine pE_getR dX2_lackOf_2 flX2_31 rfl (by first | assumption | rfl) (by first | assumption | rfl) ?_
  refine pE_iload_n dX2_lackOf_5 rfl rfl ?_
  refine pE_iaload dX2_lackOf_6 (by first | assumption | rfl) (by first | assumption | (apply vp_in_lit <;> decide)) ?_
  refine pE_aload_n dX2_lackOf_7 rfl rfl ?_
  refine pE_getR dX2_lackOf_8 flX2_72 rfl (by first | assumption | rfl) (by first | assumption | rfl) ?_
  refine pE_iload_n dX2_lackOf_11 rfl rfl ?_
  refine pE_iaload dX2_lackOf_12 (by first | assumption | rfl) (by first | assumption | (apply vp_in_lit <;> decide)) ?_
  refine pE_iadd dX2_lackOf_13 ?_
  refine pE_aload_n dX2_lackOf_14 rfl rfl ?_
  refine pE_getR dX2_lackOf_15 flX2_69 rfl (by first | assumption | rfl) (by first | assumption | rfl) ?_
  refine pE_iload_n dX2_lackOf_18 rfl rfl ?_
  refine pE_iaload dX2_lackOf_19 (by first | assumption | rfl) (by first | assumption | (apply vp_in_lit <;> decide)) ?_
  refine pE_isub dX2_lackOf_20 ?_
  refine pE_max dX2_lackOf_21 lkX2_91 (by decide) (Nat.le_of_ble_eq_true rfl) ?_
  refine pE_iret dX2_lackOf_24 rfl rfl ?_
  exact hq
set_option maxHeartbeats 4000000 in
set_option maxRecDepth 100000 in
theorem M_X2_hasTenant {l : Launch} {X : pX} {t g : Nat} {I : pHI} {J : pHJ} {Q : pQ} {o : Nat} {x : Int32} (ho : isH o) (h1 : ¬ x < 0 → ¬ I o 2 ≤ x → ¬ (8 : Int32) ≤ x → Q (some (.int 1)) I J (pR t g)) (h0 : (x < 0 ∨ I o 2 ≤ x ∨ (8 : Int32) ≤ x) → Q (some (.int 0)) I J (pR t g)) : pM l X yX2_hasTenant mX2_hasTenant 0 [.ref o, .int x] pK pK I J (pR t g) Q := by
  obtain ⟨fHF_ho0, fHF_ho1, fHF_ho2, fHF_ho3, fHF_ho4, fHF_ho5, fHF_ho6, fHF_ho7, fHF_ho8, fHF_ho9, fHF_ho10, fHF_ho11, fHF_ho12, fHF_ho13, fHF_ho14, fHF_ho15, fHF_ho16, fHF_ho17, fHF_ho18, fHF_ho19, fHF_ho20, fHF_ho21, fHF_ho22, fHF_ho23, fHF_ho24, fHF_ho25, fHF_ho26⟩ := HF t g ho
  refine pM_of rfl (fun h => by cases h) rfl pKM (Nat.le_of_ble_eq_true rfl) ?_
  refine pE_iload_n dX2_hasTenant_0 rfl rfl ?_
  refine pE_if_lt (tgt := 22) dX2_hasTenant_1 (by decide) (fun g1 => ?_) (fun g1 => ?_)
  · refine pE_iconst (v := 0) dX2_hasTenant_22 rfl ?_
    refine pE_zret dX2_hasTenant_23 rfl (by first | exact Or.inl rfl | exact Or.inr rfl | assumption) rfl ?_
    first | exact h1 (by assumption) (by assumption) (by assumption) | exact h0 (Or.inl (by assumption)) | exact h0 (Or.inr (Or.inl (by assumption))) | exact h0 (Or.inr (Or.inr (by assumption)))
  · refine pE_iload_n dX2_hasTenant_4 rfl rfl ?_
    refine pE_aload_n dX2_hasTenant_5 rfl rfl ?_
    refine pE_getI dX2_hasTenant_6 flX2_18 rfl (Or.inl rfl) (by first | assumption | rfl) ?_
    refine pE_icmp_ge (tgt := 22) dX2_hasTenant_9 (by decide) (fun g9 => ?_) (fun g9 => ?_)
    · refine pE_iconst (v := 0) dX2_hasTenant_22 rfl ?_
      refine pE_zret dX2_hasTenant_23 rfl (by first | exact Or.inl rfl | exact Or.inr rfl | assumption) rfl ?_
      first | exact h1 (by assumption) (by assumption) (by assumption) | exact h0 (Or.inl (by assumption)) | exact h0 (Or.inr (Or.inl (by assumption))) | exact h0 (Or.inr (Or.inr (by assumption)))
    · refine pE_iload_n dX2_hasTenant_12 rfl rfl ?_
      refine pE_bipush (v := 8) dX2_hasTenant_13 rfl ?_
      refine pE_icmp_ge (tgt := 22) dX2_hasTenant_15 (by decide) (fun g15 => ?_) (fun g15 => ?_)
      · refine pE_iconst (v := 0) dX2_hasTenant_22 rfl ?_
        refine pE_zret dX2_hasTenant_23 rfl (by first | exact Or.inl rfl | exact Or.inr rfl | assumption) rfl ?_
        first | exact h1 (by assumption) (by assumption) (by assumption) | exact h0 (Or.inl (by assumption)) | exact h0 (Or.inr (Or.inl (by assumption))) | exact h0 (Or.inr (Or.inr (by assumption)))
      · refine pE_iconst (v := 1) dX2_hasTenant_18 rfl ?_
        refine pE_goto (tgt := 23) dX2_hasTenant_19 (by decide) ?_
        refine pE_zret dX2_hasTenant_23 rfl (by first | exact Or.inl rfl | exact Or.inr rfl | assumption) rfl ?_
        first | exact h1 (by assumption) (by assumption) (by assumption) | exact h0 (Or.inl (by assumption)) | exact h0 (Or.inr (Or.inl (by assumption))) | exact h0 (Or.inr (Or.inr (by assumption)))
set_option maxHeartbeats 4000000 in
set_option maxRecDepth 100000 in
theorem M_X2_costOf {l : Launch} {X : pX} {t g : Nat} {I : pHI} {J : pHJ} {Q : pQ} {o : Nat} {x : Int32} (ho : isH o) (hx : vp_in x 8) (hq : Q (some (.int (30 * I (o + 1) x.toNatClampNeg + I (o + 4) x.toNatClampNeg))) I J (pR t g)) : pM l X yX2_costOf mX2_costOf 0 [.ref o, .int x] pK pK I J (pR t g) Q := by
  obtain ⟨fHF_ho0, fHF_ho1, fHF_ho2, fHF_ho3, fHF_ho4, fHF_ho5, fHF_ho6, fHF_ho7, fHF_ho8, fHF_ho9, fHF_ho10, fHF_ho11, fHF_ho12, fHF_ho13, fHF_ho14, fHF_ho15, fHF_ho16, fHF_ho17, fHF_ho18, fHF_ho19, fHF_ho20, fHF_ho21, fHF_ho22, fHF_ho23, fHF_ho24, fHF_ho25, fHF_ho26⟩ := HF t g ho
  refine pM_of rfl (fun h => by cases h) rfl pKM (Nat.le_of_ble_eq_true rfl) ?_
  refine pE_bipush (v := 30) dX2_costOf_0 rfl ?_
  refine pE_aload_n dX2_costOf_2 rfl rfl ?_
  refine pE_getR dX2_costOf_3 flX2_21 rfl (by first | assumption | rfl) (by first | assumption | rfl) ?_
  refine pE_iload_n dX2_costOf_6 rfl rfl ?_
  refine pE_iaload dX2_costOf_7 (by first | assumption | rfl) (by first | assumption | (apply vp_in_lit <;> decide)) ?_
  refine pE_imul dX2_costOf_8 ?_
  refine pE_aload_n dX2_costOf_9 rfl rfl ?_
  refine pE_getR dX2_costOf_10 flX2_31 rfl (by first | assumption | rfl) (by first | assumption | rfl) ?_
  refine pE_iload_n dX2_costOf_13 rfl rfl ?_
  refine pE_iaload dX2_costOf_14 (by first | assumption | rfl) (by first | assumption | (apply vp_in_lit <;> decide)) ?_
  refine pE_iadd dX2_costOf_15 ?_
  refine pE_iret dX2_costOf_16 rfl rfl ?_
  exact hq
set_option maxHeartbeats 4000000 in
set_option maxRecDepth 100000 in
theorem M_X12_isIn {l : Launch} {X : pX} {t g : Nat} {I : pHI} {J : pHJ} {Q : pQ} {x a b : Int32} (h1 : ¬ x < a → ¬ b < x → Q (some (.int 1)) I J (pR t g)) (h0 : (x < a ∨ b < x) → Q (some (.int 0)) I J (pR t g)) : pM l X yX12_isIn mX12_isIn 0 [.int x, .int a, .int b] pK pK I J (pR t g) Q := by
  refine pM_of rfl (fun h => by cases h) rfl pKM (Nat.le_of_ble_eq_true rfl) ?_
  refine pE_iload_n dX12_isIn_0 rfl rfl ?_
  refine pE_iload_n dX12_isIn_1 rfl rfl ?_
  refine pE_icmp_lt (tgt := 14) dX12_isIn_2 (by decide) (fun h2 => ?_) (fun h2 => ?_)
  · refine pE_iconst (v := 0) dX12_isIn_14 rfl ?_
    refine pE_zret dX12_isIn_15 rfl (by first | exact Or.inl rfl | exact Or.inr rfl | assumption) rfl ?_
    first | exact h1 (by assumption) (by assumption) | exact h0 (Or.inl (by assumption)) | exact h0 (Or.inr (by assumption))
  · refine pE_iload_n dX12_isIn_5 rfl rfl ?_
    refine pE_iload_n dX12_isIn_6 rfl rfl ?_
    refine pE_icmp_gt (tgt := 14) dX12_isIn_7 (by decide) (fun h7 => ?_) (fun h7 => ?_)
    · refine pE_iconst (v := 0) dX12_isIn_14 rfl ?_
      refine pE_zret dX12_isIn_15 rfl (by first | exact Or.inl rfl | exact Or.inr rfl | assumption) rfl ?_
      first | exact h1 (by assumption) (by assumption) | exact h0 (Or.inl (by assumption)) | exact h0 (Or.inr (by assumption))
    · refine pE_iconst (v := 1) dX12_isIn_10 rfl ?_
      refine pE_goto (tgt := 15) dX12_isIn_11 (by decide) ?_
      refine pE_zret dX12_isIn_15 rfl (by first | exact Or.inl rfl | exact Or.inr rfl | assumption) rfl ?_
      first | exact h1 (by assumption) (by assumption) | exact h0 (Or.inl (by assumption)) | exact h0 (Or.inr (by assumption))
