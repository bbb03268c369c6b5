set_option maxHeartbeats 4000000 in
set_option maxRecDepth 100000 in
theorem M_X9_saveTo {l : Launch} {X : pX} {t g : Nat} {I : pHI} {J : pHJ} {Q : pQ} {b k N : Nat} {T : pN} (hS : cS 33 T I) (hb : pK[b]? = some (.inr (0, N))) (hn : N ≤ 2000) (hk : 28 * k + 28 ≤ N) (hne : b = 42 ∨ b = 43) (hq : ∀ gg : Nat → Int32, (∀ q, q < 28 → gg (28 * k + q) = nI (T q)) → (∀ q, q < 28 * k ∨ 28 * k + 28 ≤ q → gg q = I b q) → Q none (pz I b gg) J (pR t g)) : pM l X yX9_saveTo mX9_saveTo 1 [.ref 33, .ref b, .int (nI k)] pK pK I J (pR t g) Q := by
  have nb : 33 ≠ b ∧ 34 ≠ b ∧ 35 ≠ b ∧ 36 ≠ b := by rcases hne with rfl | rfl <;> decide
  refine pM_of rfl (fun h => by cases h) rfl pKM (Nat.le_of_ble_eq_true rfl) ?_
  refine pE_iload_n dX9_saveTo_0 rfl rfl ?_
  refine pE_bipush (v := nI 28) dX9_saveTo_1 rfl ?_
  refine pE_imulN dX9_saveTo_3 ?_
  refine pE_istore_n (lc' := [_, _, _, some (.int _)]) dX9_saveTo_4 rfl (Nat.le_of_ble_eq_true rfl) rfl rfl ?_
  refine pE_iload_n dX9_saveTo_5 rfl rfl ?_
  refine pE_if_lt (tgt := 18) dX9_saveTo_6 (by decide) (fun h6 => ?_) (fun h6 => ?_)
  · exact absurd h6 (nI_pos (by omega))
  · refine pE_iload_n dX9_saveTo_9 rfl rfl ?_
    refine pE_aload_n dX9_saveTo_10 rfl rfl ?_
    refine pE_alenN dX9_saveTo_11 (by first | assumption | rfl) (by decide) ?_
    refine pE_bipush (v := nI 28) dX9_saveTo_12 rfl ?_
    refine pE_isubN dX9_saveTo_14 (by omega) ?_
    refine pE_icmp_le (tgt := 19) dX9_saveTo_15 (by decide) (fun h15 => ?_) (fun h15 => ?_)
    · have g15 := nq_le (by omega) (by omega) h15
      refine pE_aload_n dX9_saveTo_19 rfl rfl ?_
      refine pE_getR dX9_saveTo_20 flX9_9 rfl (by first | assumption | rfl) (by first | assumption | rfl) ?_
      refine pE_iconst (v := nI 0) dX9_saveTo_23 rfl ?_
      refine pE_aload_n dX9_saveTo_24 rfl rfl ?_
      refine pE_iload_n dX9_saveTo_25 rfl rfl ?_
      refine pE_bipush (v := nI 8) dX9_saveTo_26 rfl ?_
      refine pE_acopy dX9_saveTo_28 lkX9_34 (by first | assumption | rfl) (by first | assumption | rfl) (nI_pos (by omega)) (nI_pos (by omega)) (nI_pos (by omega)) (by rw [nI_clamp (by omega), nI_clamp (by omega)]; omega) (by rw [nI_clamp (by omega), nI_clamp (by omega)]; omega) (by decide) (Nat.le_of_ble_eq_true rfl) ?_
      refine pE_aload_n dX9_saveTo_31 rfl rfl ?_
      refine pE_getR dX9_saveTo_32 flX9_15 rfl (by first | assumption | rfl) (by first | assumption | rfl) ?_
      refine pE_iconst (v := nI 0) dX9_saveTo_35 rfl ?_
      refine pE_aload_n dX9_saveTo_36 rfl rfl ?_
      refine pE_iload_n dX9_saveTo_37 rfl rfl ?_
      refine pE_bipush (v := nI 8) dX9_saveTo_38 rfl ?_
      refine pE_iaddN dX9_saveTo_40 ?_
      refine pE_bipush (v := nI 8) dX9_saveTo_41 rfl ?_
      refine pE_acopy dX9_saveTo_43 lkX9_34 (by first | assumption | rfl) (by first | assumption | rfl) (nI_pos (by omega)) (nI_pos (by omega)) (nI_pos (by omega)) (by rw [nI_clamp (by omega), nI_clamp (by omega)]; omega) (by rw [nI_clamp (by omega), nI_clamp (by omega)]; omega) (by decide) (Nat.le_of_ble_eq_true rfl) ?_
      refine pE_aload_n dX9_saveTo_46 rfl rfl ?_
      refine pE_getR dX9_saveTo_47 flX9_18 rfl (by first | assumption | rfl) (by first | assumption | rfl) ?_
      refine pE_iconst (v := nI 0) dX9_saveTo_50 rfl ?_
      refine pE_aload_n dX9_saveTo_51 rfl rfl ?_
      refine pE_iload_n dX9_saveTo_52 rfl rfl ?_
      refine pE_bipush (v := nI 16) dX9_saveTo_53 rfl ?_
      refine pE_iaddN dX9_saveTo_55 ?_
      refine pE_bipush (v := nI 8) dX9_saveTo_56 rfl ?_
      refine pE_acopy dX9_saveTo_58 lkX9_34 (by first | assumption | rfl) (by first | assumption | rfl) (nI_pos (by omega)) (nI_pos (by omega)) (nI_pos (by omega)) (by rw [nI_clamp (by omega), nI_clamp (by omega)]; omega) (by rw [nI_clamp (by omega), nI_clamp (by omega)]; omega) (by decide) (Nat.le_of_ble_eq_true rfl) ?_
      refine pE_aload_n dX9_saveTo_61 rfl rfl ?_
      refine pE_iload_n dX9_saveTo_62 rfl rfl ?_
      refine pE_bipush (v := nI 28) dX9_saveTo_63 rfl ?_
      refine pE_iaddN dX9_saveTo_65 ?_
      refine pE_iconst (v := nI 4) dX9_saveTo_66 rfl ?_
      refine pE_isubN dX9_saveTo_67 (by omega) ?_
      refine pE_aload_n dX9_saveTo_68 rfl rfl ?_
      refine pE_getI dX9_saveTo_69 flX9_21 rfl (Or.inl rfl) (by first | assumption | rfl) ?_
      refine pE_iastoreN dX9_saveTo_72 (by first | assumption | rfl) (by omega) (by omega) ?_
      refine pE_aload_n dX9_saveTo_73 rfl rfl ?_
      refine pE_iload_n dX9_saveTo_74 rfl rfl ?_
      refine pE_bipush (v := nI 28) dX9_saveTo_75 rfl ?_
      refine pE_iaddN dX9_saveTo_77 ?_
      refine pE_iconst (v := nI 3) dX9_saveTo_78 rfl ?_
      refine pE_isubN dX9_saveTo_79 (by omega) ?_
      refine pE_aload_n dX9_saveTo_80 rfl rfl ?_
      refine pE_getI dX9_saveTo_81 flX9_25 rfl (Or.inl rfl) (by first | assumption | rfl) ?_
      refine pE_iastoreN dX9_saveTo_84 (by first | assumption | rfl) (by omega) (by omega) ?_
      refine pE_aload_n dX9_saveTo_85 rfl rfl ?_
      refine pE_iload_n dX9_saveTo_86 rfl rfl ?_
      refine pE_bipush (v := nI 28) dX9_saveTo_87 rfl ?_
      refine pE_iaddN dX9_saveTo_89 ?_
      refine pE_iconst (v := nI 2) dX9_saveTo_90 rfl ?_
      refine pE_isubN dX9_saveTo_91 (by omega) ?_
      refine pE_aload_n dX9_saveTo_92 rfl rfl ?_
      refine pE_getI dX9_saveTo_93 flX9_28 rfl (Or.inl rfl) (by first | assumption | rfl) ?_
      refine pE_iastoreN dX9_saveTo_96 (by first | assumption | rfl) (by omega) (by omega) ?_
      refine pE_aload_n dX9_saveTo_97 rfl rfl ?_
      refine pE_iload_n dX9_saveTo_98 rfl rfl ?_
      refine pE_bipush (v := nI 28) dX9_saveTo_99 rfl ?_
      refine pE_iaddN dX9_saveTo_101 ?_
      refine pE_iconst (v := nI 1) dX9_saveTo_102 rfl ?_
      refine pE_isubN dX9_saveTo_103 (by omega) ?_
      refine pE_aload_n dX9_saveTo_104 rfl rfl ?_
      refine pE_getI dX9_saveTo_105 flX9_31 rfl (Or.inl rfl) (by first | assumption | rfl) ?_
      refine pE_iastoreN dX9_saveTo_108 (by first | assumption | rfl) (by omega) (by omega) ?_
      refine pE_vret dX9_saveTo_109 rfl rfl ?_
      rw [cpyN _ _ (by omega) (by omega) (by omega), cpyN _ _ (by omega) (by omega) (by omega), cpyN _ _ (by omega) (by omega) (by omega)]
      simp only [pu_pz, pz_pz, pz_eq, pz_ne _ _ nb.1, pz_ne _ _ nb.2.1, pz_ne _ _ nb.2.2.1, pz_ne _ _ nb.2.2.2, pu_ne _ _ _ nb.1, Nat.zero_add]
      obtain ⟨s1, s2, s3, s4, s5⟩ := hS
      refine hq _ (fun q hq28 => ?_) (fun q ho => ?_)
      · by_cases c7 : q = 27
        · subst c7; rw [if_pos (by omega)]; exact s4
        rw [if_neg (by omega)]
        by_cases c6 : q = 26
        · subst c6; rw [if_pos (by omega)]; exact s3
        rw [if_neg (by omega)]
        by_cases c5 : q = 25
        · subst c5; rw [if_pos (by omega)]; exact s2
        rw [if_neg (by omega)]
        by_cases c4 : q = 24
        · subst c4; rw [if_pos (by omega)]; exact s1
        rw [if_neg (by omega)]
        by_cases e3 : 16 ≤ q
        · rw [cpy_in (by omega), show 28 * k + q - (k * 28 + 16) = q - 16 by omega]
          have := (s5 (q - 16) (by omega)).2.2
          rw [show 16 + (q - 16) = q by omega] at this
          simpa using this
        · rw [cpy_out (by omega)]
          by_cases e2 : 8 ≤ q
          · rw [cpy_in (by omega), show 28 * k + q - (k * 28 + 8) = q - 8 by omega]
            have := (s5 (q - 8) (by omega)).2.1
            rw [show 8 + (q - 8) = q by omega] at this
            simpa using this
          · rw [cpy_out (by omega), cpy_in (by omega), show 28 * k + q - k * 28 = q by omega]
            simpa using (s5 q (by omega)).1
      · rw [if_neg (by omega), if_neg (by omega), if_neg (by omega), if_neg (by omega), cpy_out (by omega), cpy_out (by omega), cpy_out (by omega)]
    · have g15 := nq_nle (by omega) (by omega) h15
      exact absurd g15 (by omega)
set_option maxHeartbeats 4000000 in
set_option maxRecDepth 100000 in
theorem M_X9_loadFrom {l : Launch} {X : pX} {t g : Nat} {I : pHI} {J : pHJ} {Q : pQ} {b k N : Nat} {T : pN} (hT : ∀ q, q < 28 → I b (28 * k + q) = nI (T q)) (hb : pK[b]? = some (.inr (0, N))) (hn : N ≤ 2000) (hk : 28 * k + 28 ≤ N) (hne : b = 42 ∨ b = 43) (hq : ∀ I1, sx 33 I I1 → cS 33 T I1 → Q none I1 J (pR t g)) : pM l X yX9_loadFrom mX9_loadFrom 1 [.ref 33, .ref b, .int (nI k)] pK pK I J (pR t g) Q := by
  have nb : b ≠ 33 ∧ b ≠ 34 ∧ b ≠ 35 ∧ b ≠ 36 := by rcases hne with rfl | rfl <;> decide
  refine pM_of rfl (fun h => by cases h) rfl pKM (Nat.le_of_ble_eq_true rfl) ?_
  refine pE_iload_n dX9_loadFrom_0 rfl rfl ?_
  refine pE_bipush (v := nI 28) dX9_loadFrom_1 rfl ?_
  refine pE_imulN dX9_loadFrom_3 ?_
  refine pE_istore_n (lc' := [_, _, _, some (.int _)]) dX9_loadFrom_4 rfl (Nat.le_of_ble_eq_true rfl) rfl rfl ?_
  refine pE_iload_n dX9_loadFrom_5 rfl rfl ?_
  refine pE_if_lt (tgt := 18) dX9_loadFrom_6 (by decide) (fun h6 => ?_) (fun h6 => ?_)
  · exact absurd h6 (nI_pos (by omega))
  · refine pE_iload_n dX9_loadFrom_9 rfl rfl ?_
    refine pE_aload_n dX9_loadFrom_10 rfl rfl ?_
    refine pE_alenN dX9_loadFrom_11 (by first | assumption | rfl) (by decide) ?_
    refine pE_bipush (v := nI 28) dX9_loadFrom_12 rfl ?_
    refine pE_isubN dX9_loadFrom_14 (by omega) ?_
    refine pE_icmp_le (tgt := 19) dX9_loadFrom_15 (by decide) (fun h15 => ?_) (fun h15 => ?_)
    · have g15 := nq_le (by omega) (by omega) h15
      refine pE_aload_n dX9_loadFrom_19 rfl rfl ?_
      refine pE_iload_n dX9_loadFrom_20 rfl rfl ?_
      refine pE_aload_n dX9_loadFrom_21 rfl rfl ?_
      refine pE_getR dX9_loadFrom_22 flX9_9 rfl (by first | assumption | rfl) (by first | assumption | rfl) ?_
      refine pE_iconst (v := nI 0) dX9_loadFrom_25 rfl ?_
      refine pE_bipush (v := nI 8) dX9_loadFrom_26 rfl ?_
      refine pE_acopy dX9_loadFrom_28 lkX9_34 (by first | assumption | rfl) (by first | assumption | rfl) (nI_pos (by omega)) (nI_pos (by omega)) (nI_pos (by omega)) (by rw [nI_clamp (by omega), nI_clamp (by omega)]; omega) (by rw [nI_clamp (by omega), nI_clamp (by omega)]; omega) (by decide) (Nat.le_of_ble_eq_true rfl) ?_
      refine pE_aload_n dX9_loadFrom_31 rfl rfl ?_
      refine pE_iload_n dX9_loadFrom_32 rfl rfl ?_
      refine pE_bipush (v := nI 8) dX9_loadFrom_33 rfl ?_
      refine pE_iaddN dX9_loadFrom_35 ?_
      refine pE_aload_n dX9_loadFrom_36 rfl rfl ?_
      refine pE_getR dX9_loadFrom_37 flX9_15 rfl (by first | assumption | rfl) (by first | assumption | rfl) ?_
      refine pE_iconst (v := nI 0) dX9_loadFrom_40 rfl ?_
      refine pE_bipush (v := nI 8) dX9_loadFrom_41 rfl ?_
      refine pE_acopy dX9_loadFrom_43 lkX9_34 (by first | assumption | rfl) (by first | assumption | rfl) (nI_pos (by omega)) (nI_pos (by omega)) (nI_pos (by omega)) (by rw [nI_clamp (by omega), nI_clamp (by omega)]; omega) (by rw [nI_clamp (by omega), nI_clamp (by omega)]; omega) (by decide) (Nat.le_of_ble_eq_true rfl) ?_
      refine pE_aload_n dX9_loadFrom_46 rfl rfl ?_
      refine pE_iload_n dX9_loadFrom_47 rfl rfl ?_
      refine pE_bipush (v := nI 16) dX9_loadFrom_48 rfl ?_
      refine pE_iaddN dX9_loadFrom_50 ?_
      refine pE_aload_n dX9_loadFrom_51 rfl rfl ?_
      refine pE_getR dX9_loadFrom_52 flX9_18 rfl (by first | assumption | rfl) (by first | assumption | rfl) ?_
      refine pE_iconst (v := nI 0) dX9_loadFrom_55 rfl ?_
      refine pE_bipush (v := nI 8) dX9_loadFrom_56 rfl ?_
      refine pE_acopy dX9_loadFrom_58 lkX9_34 (by first | assumption | rfl) (by first | assumption | rfl) (nI_pos (by omega)) (nI_pos (by omega)) (nI_pos (by omega)) (by rw [nI_clamp (by omega), nI_clamp (by omega)]; omega) (by rw [nI_clamp (by omega), nI_clamp (by omega)]; omega) (by decide) (Nat.le_of_ble_eq_true rfl) ?_
      refine pE_aload_n dX9_loadFrom_61 rfl rfl ?_
      refine pE_aload_n dX9_loadFrom_62 rfl rfl ?_
      refine pE_iload_n dX9_loadFrom_63 rfl rfl ?_
      refine pE_bipush (v := nI 28) dX9_loadFrom_64 rfl ?_
      refine pE_iaddN dX9_loadFrom_66 ?_
      refine pE_iconst (v := nI 4) dX9_loadFrom_67 rfl ?_
      refine pE_isubN dX9_loadFrom_68 (by omega) ?_
      refine pE_ialoadN dX9_loadFrom_69 (by first | assumption | rfl) (by omega) (by omega) ?_
      refine pE_putI dX9_loadFrom_70 flX9_21 ftX9 fiX9_3 rfl rfl (by first | assumption | rfl) ?_
      refine pE_aload_n dX9_loadFrom_73 rfl rfl ?_
      refine pE_aload_n dX9_loadFrom_74 rfl rfl ?_
      refine pE_iload_n dX9_loadFrom_75 rfl rfl ?_
      refine pE_bipush (v := nI 28) dX9_loadFrom_76 rfl ?_
      refine pE_iaddN dX9_loadFrom_78 ?_
      refine pE_iconst (v := nI 3) dX9_loadFrom_79 rfl ?_
      refine pE_isubN dX9_loadFrom_80 (by omega) ?_
      refine pE_ialoadN dX9_loadFrom_81 (by first | assumption | rfl) (by omega) (by omega) ?_
      refine pE_putI dX9_loadFrom_82 flX9_25 ftX9 fiX9_4 rfl rfl (by first | assumption | rfl) ?_
      refine pE_aload_n dX9_loadFrom_85 rfl rfl ?_
      refine pE_aload_n dX9_loadFrom_86 rfl rfl ?_
      refine pE_iload_n dX9_loadFrom_87 rfl rfl ?_
      refine pE_bipush (v := nI 28) dX9_loadFrom_88 rfl ?_
      refine pE_iaddN dX9_loadFrom_90 ?_
      refine pE_iconst (v := nI 2) dX9_loadFrom_91 rfl ?_
      refine pE_isubN dX9_loadFrom_92 (by omega) ?_
      refine pE_ialoadN dX9_loadFrom_93 (by first | assumption | rfl) (by omega) (by omega) ?_
      refine pE_putI dX9_loadFrom_94 flX9_28 ftX9 fiX9_5 rfl rfl (by first | assumption | rfl) ?_
      refine pE_aload_n dX9_loadFrom_97 rfl rfl ?_
      refine pE_aload_n dX9_loadFrom_98 rfl rfl ?_
      refine pE_iload_n dX9_loadFrom_99 rfl rfl ?_
      refine pE_bipush (v := nI 28) dX9_loadFrom_100 rfl ?_
      refine pE_iaddN dX9_loadFrom_102 ?_
      refine pE_iconst (v := nI 1) dX9_loadFrom_103 rfl ?_
      refine pE_isubN dX9_loadFrom_104 (by omega) ?_
      refine pE_ialoadN dX9_loadFrom_105 (by first | assumption | rfl) (by omega) (by omega) ?_
      refine pE_putI dX9_loadFrom_106 flX9_31 ftX9 fiX9_6 rfl rfl (by first | assumption | rfl) ?_
      refine pE_vret dX9_loadFrom_109 rfl rfl ?_
      rw [cpyN _ _ (by omega) (by omega) (by omega), cpyN _ _ (by omega) (by omega) (by omega), cpyN _ _ (by omega) (by omega) (by omega)]
      simp only [pz_ne _ _ nb.2.1, pz_ne _ _ nb.2.2.1, pz_ne _ _ nb.2.2.2, pu_ne _ _ _ nb.1, Nat.zero_add]
      refine hq _ (fun c k2 a b2 => ?_) ⟨?_, ?_, ?_, ?_, fun j hj => ⟨?_, ?_, ?_⟩⟩
      · have n33 : c ≠ 33 := by omega
        have n34 : c ≠ 34 := by omega
        have n35 : c ≠ 35 := by omega
        have n36 : c ≠ 36 := by omega
        rw [pu_ne _ _ _ n33, pu_ne _ _ _ n33, pu_ne _ _ _ n33, pu_ne _ _ _ n33, pz_ne _ _ n36, pz_ne _ _ n35, pz_ne _ _ n34]
      · simp only [pu_at]; simp; rw [show k * 28 + 24 = 28 * k + 24 by omega]; exact hT 24 (by omega)
      · simp only [pu_at]; simp; rw [show k * 28 + 25 = 28 * k + 25 by omega]; exact hT 25 (by omega)
      · simp only [pu_at]; simp; rw [show k * 28 + 26 = 28 * k + 26 by omega]; exact hT 26 (by omega)
      · simp only [pu_at]; simp; rw [show k * 28 + 27 = 28 * k + 27 by omega]; exact hT 27 (by omega)
      · simp only [pu_at, pz_ne, pz_eq, ne_eq, Nat.reduceAdd, Nat.reduceEqDiff, not_false_eq_true, false_and, if_false]
        rw [cpy_in (by omega), show k * 28 + (j - 0) = 28 * k + j by omega]
        exact hT j (by omega)
      · simp only [pu_at, pz_ne, pz_eq, ne_eq, Nat.reduceAdd, Nat.reduceEqDiff, not_false_eq_true, false_and, if_false]
        rw [cpy_in (by omega), show k * 28 + 8 + (j - 0) = 28 * k + (8 + j) by omega]
        exact hT (8 + j) (by omega)
      · simp only [pu_at, pz_ne, pz_eq, ne_eq, Nat.reduceAdd, Nat.reduceEqDiff, not_false_eq_true, false_and, if_false]
        rw [cpy_in (by omega), show k * 28 + 16 + (j - 0) = 28 * k + (16 + j) by omega]
        exact hT (16 + j) (by omega)
    · have g15 := nq_nle (by omega) (by omega) h15
      exact absurd g15 (by omega)
set_option maxHeartbeats 4000000 in
set_option maxRecDepth 100000 in
theorem M_X3_slotOf {l : Launch} {X : pX} {t g : Nat} {I : pHI} {J : pHJ} {Q : pQ} {od a : Nat} (h1 : I 41 1 = nI od) (ho : od < 41) (ha : a ≤ 41) (hq : Q (some (.int (nI ((od + a) % 41)))) I J (pR t g)) : pM l X yX3_slotOf mX3_slotOf 0 [.ref 41, .int (nI a)] pK pK I J (pR t g) Q := by
  refine pM_of rfl (fun h => by cases h) rfl pKM (Nat.le_of_ble_eq_true rfl) ?_
  refine pE_aload_n dX3_slotOf_0 rfl rfl ?_
  refine pE_getI dX3_slotOf_1 flX3_15 rfl (Or.inl rfl) (by first | assumption | rfl) ?_
  rw [h1]
  refine pE_iload_n dX3_slotOf_4 rfl rfl ?_
  refine pE_iaddN dX3_slotOf_5 ?_
  refine pE_bipush (v := nI 41) dX3_slotOf_6 rfl ?_
  refine pE_iremN dX3_slotOf_8 (by omega) (by omega) (by omega) ?_
  refine pE_iret dX3_slotOf_9 rfl rfl ?_
  exact hq
set_option maxHeartbeats 4000000 in
set_option maxRecDepth 100000 in
theorem M_X3_takeBack {l : Launch} {X : pX} {t g : Nat} {I : pHI} {J : pHJ} {Q : pQ} {od d u : Nat} {G : Nat → pN} (hK : cK I od d u G) (h1 : 0 < d → ∀ I1, (∀ c k, ¬ scF c k → ¬ (33 ≤ c ∧ c ≤ 36) → c ≠ 41 → I1 c k = I c k) → cK I1 od (d - 1) (u + 1) G → cS 33 (G (d - 1)) I1 → Q (some (.int (nI 1))) I1 J (pR t g)) (h0 : d = 0 → Q (some (.int (nI 0))) I J (pR t g)) : pM l X yX3_takeBack mX3_takeBack 2 [.ref 41, .ref 33] pK pK I J (pR t g) Q := by
  obtain ⟨k1, k2, k3, k4, k5, k6⟩ := hK
  refine pM_of rfl (fun h => by cases h) rfl pKM (Nat.le_of_ble_eq_true rfl) ?_
  refine pE_aload_n dX3_takeBack_0 rfl rfl ?_
  refine pE_getI dX3_takeBack_1 flX3_19 rfl (Or.inl rfl) (by first | assumption | rfl) ?_
  rw [k2]
  refine pE_if_ne (tgt := 9) dX3_takeBack_4 (by decide) (fun h4 => ?_) (fun h4 => ?_)
  · have g4 := nq_ne0 (by omega) h4
    refine pE_aload_n dX3_takeBack_9 rfl rfl ?_
    refine pE_dupR dX3_takeBack_10 ?_
    refine pE_getI dX3_takeBack_11 flX3_19 rfl (Or.inl rfl) (by first | assumption | rfl) ?_
    rw [k2]
    refine pE_iconst (v := nI 1) dX3_takeBack_14 rfl ?_
    refine pE_isubN dX3_takeBack_15 (by omega) ?_
    refine pE_putI dX3_takeBack_16 flX3_19 ftX3 fiX3_2 rfl rfl (by first | assumption | rfl) ?_
    refine pE_aload_n dX3_takeBack_19 rfl rfl ?_
    refine pE_dupR dX3_takeBack_20 ?_
    refine pE_getI dX3_takeBack_21 flX3_22 rfl (Or.inl rfl) (by first | assumption | rfl) ?_
    rw [(by rw [pu_at, if_neg (by decide)]; exact k3 : pu I 41 2 (nI (d - 1)) 41 3 = nI u)]
    refine pE_iconst (v := nI 1) dX3_takeBack_24 rfl ?_
    refine pE_iaddN dX3_takeBack_25 ?_
    refine pE_putI dX3_takeBack_26 flX3_22 ftX3 fiX3_3 rfl rfl (by first | assumption | rfl) ?_
    refine pE_aload_n dX3_takeBack_29 rfl rfl ?_
    refine pE_aload_n dX3_takeBack_30 rfl rfl ?_
    refine pE_getR dX3_takeBack_31 flX3_11 rfl (by first | assumption | rfl) (by first | assumption | rfl) ?_
    refine pE_aload_n dX3_takeBack_34 rfl rfl ?_
    refine pE_aload_n dX3_takeBack_35 rfl rfl ?_
    refine pE_getI dX3_takeBack_36 flX3_19 rfl (Or.inl rfl) (by first | assumption | rfl) ?_
    rw [(by rw [pu_at, if_neg (by decide), pu_at, if_pos ⟨rfl, rfl⟩] : pu (pu I 41 2 (nI (d - 1))) 41 3 (nI (u + 1)) 41 2 = nI (d - 1))]
    refine pE_callV (d' := 0) (as := [_]) dX3_takeBack_39 lkX3_32 (cwX3_slotOf _ _) ivX3_slotOf ⟨_, rfl, rfl⟩ (by first | assumption | rfl) rfl rfl (Nat.le_of_ble_eq_true rfl) (by decide) pKK ?_
    refine M_X3_slotOf (od := od) (by rw [pu_at, if_neg (by decide), pu_at, if_neg (by decide)]; exact k1) k4 (by omega) ?_
    refine pE_callV (d' := 1) (as := [_, _]) dX3_takeBack_42 lkX3_40 (cwX9_loadFrom _ _) ivX9_loadFrom ⟨_, rfl, rfl⟩ (by first | assumption | rfl) rfl rfl (Nat.le_of_ble_eq_true rfl) (by decide) pKK ?_
    refine M_X9_loadFrom (k := (od + (d - 1)) % 41) (T := G (d - 1)) (fun q hq => by rw [pu_ne _ _ _ (by decide), pu_ne _ _ _ (by decide)]; exact k6 (d - 1) (by omega) q hq) rfl (by omega) (by omega) (Or.inl rfl) (fun I1 hx hS => ?_)
    refine pE_iconst (v := nI 1) dX3_takeBack_45 rfl ?_
    refine pE_zret dX3_takeBack_46 rfl (by first | exact Or.inl nI_0 | exact Or.inr nI_1' | assumption) rfl ?_
    refine h1 g4 I1 (fun c k a b n => by rw [hx c k a b, pu_ne _ _ _ n, pu_ne _ _ _ n]) ⟨?_, ?_, ?_, k4, by omega, fun i hi q hq => ?_⟩ hS
    · rw [hx 41 1 (by simp [scF]) (by omega), pu_at, if_neg (by decide), pu_at, if_neg (by decide)]; exact k1
    · rw [hx 41 2 (by simp [scF]) (by omega), pu_at, if_neg (by decide), pu_at, if_pos ⟨rfl, rfl⟩]
    · rw [hx 41 3 (by simp [scF]) (by omega), pu_at, if_pos ⟨rfl, rfl⟩]
    · rw [hx 42 _ (by simp [scF]) (by omega), pu_ne _ _ _ (by decide), pu_ne _ _ _ (by decide)]; exact k6 i (by omega) q hq
  · have g4 := nq_eq0 (by omega) h4
    refine pE_iconst (v := nI 0) dX3_takeBack_7 rfl ?_
    refine pE_zret dX3_takeBack_8 rfl (by first | exact Or.inl nI_0 | exact Or.inr nI_1' | assumption) rfl ?_
    exact h0 g4
set_option maxHeartbeats 4000000 in
set_option maxRecDepth 100000 in
theorem M_X3_doAgain {l : Launch} {X : pX} {t g : Nat} {I : pHI} {J : pHJ} {Q : pQ} {od d u : Nat} {G : Nat → pN} (hK : cK I od d u G) (h1 : 0 < u → ∀ I1, (∀ c k, ¬ scF c k → ¬ (33 ≤ c ∧ c ≤ 36) → c ≠ 41 → I1 c k = I c k) → cK I1 od (d + 1) (u - 1) G → cS 33 (G (d + 1)) I1 → Q (some (.int (nI 1))) I1 J (pR t g)) (h0 : u = 0 → Q (some (.int (nI 0))) I J (pR t g)) : pM l X yX3_doAgain mX3_doAgain 2 [.ref 41, .ref 33] pK pK I J (pR t g) Q := by
  obtain ⟨k1, k2, k3, k4, k5, k6⟩ := hK
  refine pM_of rfl (fun h => by cases h) rfl pKM (Nat.le_of_ble_eq_true rfl) ?_
  refine pE_aload_n dX3_doAgain_0 rfl rfl ?_
  refine pE_getI dX3_doAgain_1 flX3_22 rfl (Or.inl rfl) (by first | assumption | rfl) ?_
  rw [k3]
  refine pE_if_ne (tgt := 9) dX3_doAgain_4 (by decide) (fun h4 => ?_) (fun h4 => ?_)
  · have g4 := nq_ne0 (by omega) h4
    refine pE_aload_n dX3_doAgain_9 rfl rfl ?_
    refine pE_dupR dX3_doAgain_10 ?_
    refine pE_getI dX3_doAgain_11 flX3_19 rfl (Or.inl rfl) (by first | assumption | rfl) ?_
    rw [k2]
    refine pE_iconst (v := nI 1) dX3_doAgain_14 rfl ?_
    refine pE_iaddN dX3_doAgain_15 ?_
    refine pE_putI dX3_doAgain_16 flX3_19 ftX3 fiX3_2 rfl rfl (by first | assumption | rfl) ?_
    refine pE_aload_n dX3_doAgain_19 rfl rfl ?_
    refine pE_dupR dX3_doAgain_20 ?_
    refine pE_getI dX3_doAgain_21 flX3_22 rfl (Or.inl rfl) (by first | assumption | rfl) ?_
    rw [(by rw [pu_at, if_neg (by decide)]; exact k3 : pu I 41 2 (nI (d + 1)) 41 3 = nI u)]
    refine pE_iconst (v := nI 1) dX3_doAgain_24 rfl ?_
    refine pE_isubN dX3_doAgain_25 (by omega) ?_
    refine pE_putI dX3_doAgain_26 flX3_22 ftX3 fiX3_3 rfl rfl (by first | assumption | rfl) ?_
    refine pE_aload_n dX3_doAgain_29 rfl rfl ?_
    refine pE_aload_n dX3_doAgain_30 rfl rfl ?_
    refine pE_getR dX3_doAgain_31 flX3_11 rfl (by first | assumption | rfl) (by first | assumption | rfl) ?_
    refine pE_aload_n dX3_doAgain_34 rfl rfl ?_
    refine pE_aload_n dX3_doAgain_35 rfl rfl ?_
    refine pE_getI dX3_doAgain_36 flX3_19 rfl (Or.inl rfl) (by first | assumption | rfl) ?_
    rw [(by rw [pu_at, if_neg (by decide), pu_at, if_pos ⟨rfl, rfl⟩] : pu (pu I 41 2 (nI (d + 1))) 41 3 (nI (u - 1)) 41 2 = nI (d + 1))]
    refine pE_callV (d' := 0) (as := [_]) dX3_doAgain_39 lkX3_32 (cwX3_slotOf _ _) ivX3_slotOf ⟨_, rfl, rfl⟩ (by first | assumption | rfl) rfl rfl (Nat.le_of_ble_eq_true rfl) (by decide) pKK ?_
    refine M_X3_slotOf (od := od) (by rw [pu_at, if_neg (by decide), pu_at, if_neg (by decide)]; exact k1) k4 (by omega) ?_
    refine pE_callV (d' := 1) (as := [_, _]) dX3_doAgain_42 lkX3_40 (cwX9_loadFrom _ _) ivX9_loadFrom ⟨_, rfl, rfl⟩ (by first | assumption | rfl) rfl rfl (Nat.le_of_ble_eq_true rfl) (by decide) pKK ?_
    refine M_X9_loadFrom (k := (od + (d + 1)) % 41) (T := G (d + 1)) (fun q hq => by rw [pu_ne _ _ _ (by decide), pu_ne _ _ _ (by decide)]; exact k6 (d + 1) (by omega) q hq) rfl (by omega) (by omega) (Or.inl rfl) (fun I1 hx hS => ?_)
    refine pE_iconst (v := nI 1) dX3_doAgain_45 rfl ?_
    refine pE_zret dX3_doAgain_46 rfl (by first | exact Or.inl nI_0 | exact Or.inr nI_1' | assumption) rfl ?_
    refine h1 g4 I1 (fun c k a b n => by rw [hx c k a b, pu_ne _ _ _ n, pu_ne _ _ _ n]) ⟨?_, ?_, ?_, k4, by omega, fun i hi q hq => ?_⟩ hS
    · rw [hx 41 1 (by simp [scF]) (by omega), pu_at, if_neg (by decide), pu_at, if_neg (by decide)]; exact k1
    · rw [hx 41 2 (by simp [scF]) (by omega), pu_at, if_neg (by decide), pu_at, if_pos ⟨rfl, rfl⟩]
    · rw [hx 41 3 (by simp [scF]) (by omega), pu_at, if_pos ⟨rfl, rfl⟩]
    · rw [hx 42 _ (by simp [scF]) (by omega), pu_ne _ _ _ (by decide), pu_ne _ _ _ (by decide)]; exact k6 i (by omega) q hq
  · have g4 := nq_eq0 (by omega) h4
    refine pE_iconst (v := nI 0) dX3_doAgain_7 rfl ?_
    refine pE_zret dX3_doAgain_8 rfl (by first | exact Or.inl nI_0 | exact Or.inr nI_1' | assumption) rfl ?_
    exact h0 g4
