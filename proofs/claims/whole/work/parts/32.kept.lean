set_option maxHeartbeats 4000000 in
set_option maxRecDepth 100000 in
theorem M_X9_saveTo {l : Launch} {X : pX} {t g : Nat} {I : pHI} {J : pHJ} {Q : pQ} {b k N : Nat} {T : pN} (hS : cS 33 T I) (hb : pK[b]? = some (.inr (0, N))) (hn : N ≤ 2000) (hk : 28 * k + 28 ≤ N) (hne : b = 42 ∨ b = 43) (hq : ∀ gg : Nat → Int32, (∀ q, q < 28 → gg (28 * k + q) = nI (T q)) → (∀ q, q < 28 * k ∨ 28 * k + 28 ≤ q → gg q = I b q) → Q none (pz I b gg) J (pR t g)) : pM l X yX9_saveTo mX9_saveTo 1 [.ref 33, .ref b, .int (nI k)] pK pK I J (pR t g) Q := by
  have nb : 33 ≠ b ∧ 34 ≠ b ∧ 35 ≠ b ∧ 36 ≠ b := by rcases hne with rfl | rfl <;> decide
  refine pM_of rfl (fun h => by cases h) rfl pKM (Nat.le_of_ble_eq_true rfl) ?_
  refine pE_iload_n dX9_saveTo_0 rfl rfl ?_
  refine pE_bipush (v := nI 28) dX9_saveTo_1 rfl ?_
  refine pE_imulN dX9_saveTo_3 ?_
  refine pE_istore_n (lc' := [_, _, _, some (.int _)]) dX9_saveTo_4 rfl (Nat.le_of_ble_eq_true rfl) rfl rfl ?_
  refine pE_iload_n dX9_saveTo_5 rfl rfl ?_
  refine pE_if_lt (tgt := 18) dX9_saveTo_6 (by decide) (fun h6 => ?_) (fun h6 => ?_)
  · exact absurd h6 (nI_pos (by omega))
  · refine pE_iload_n dX9_saveTo_9 rfl rfl ?_
    refine pE_aload_n dX9_saveTo_10 rfl rfl ?_
    refine pE_alenN dX9_saveTo_11 (by first | assumption | rfl) (by decide) ?_
    refine pE_bipush (v := nI 28) dX9_saveTo_12 rfl ?_
    refine pE_isubN dX9_saveTo_14 (by omega) ?_
    refine pE_icmp_le (tgt := 19) dX9_saveTo_15 (by decide) (fun h15 => ?_) (fun h15 => ?_)
    · have g15 := nq_le (by omega) (by omega) h15
      refine pE_aload_n dX9_saveTo_19 rfl rfl ?_
      refine pE_getR dX9_saveTo_20 flX9_9 rfl (by first | assumption | rfl) (by first | assumption | rfl) ?_
      refine pE_iconst (v := nI 0) dX9_saveTo_23 rfl ?_
      refine pE_aload_n dX9_saveTo_24 rfl rfl ?_
      refine pE_iload_n dX9_saveTo_25 rfl rfl ?_
      refine pE_bipush (v := nI 8) dX9_saveTo_26 rfl ?_
      refine pE_acopy dX9_saveTo_28 lkX9_34 (by first | assumption | rfl) (by first | assumption | rfl) (nI_pos (by omega)) (nI_pos (by omega)) (nI_pos (by omega)) (by rw [nI_clamp (by omega), nI_clamp (by omega)]; omega) (by rw [nI_clamp (by omega), nI_clamp (by omega)]; omega) (by decide) (Nat.le_of_ble_eq_true rfl) ?_
      refine pE_aload_n dX9_saveTo_31 rfl rfl ?_
      refine pE_getR dX9_saveTo_32 flX9_15 rfl (by first | assumption | rfl) (by first | assumption | rfl) ?_
      refine pE_iconst (v := nI 0) dX9_saveTo_35 rfl ?_
      refine pE_aload_n dX9_saveTo_36 rfl rfl ?_
      refine pE_iload_n dX9_saveTo_37 rfl rfl ?_
      refine pE_bipush (v := nI 8) dX9_saveTo_38 rfl ?_
      refine pE_iaddN dX9_saveTo_40 ?_
      refine pE_bipush (v := nI 8) dX9_saveTo_41 rfl ?_
      refine pE_acopy dX9_saveTo_43 lkX9_34 (by first | assumption | rfl) (by first | assumption | rfl) (nI_pos (by omega)) (nI_pos (by omega)) (nI_pos (by omega)) (by rw [nI_clamp (by omega), nI_clamp (by omega)]; omega) (by rw [nI_clamp (by omega), nI_clamp (by omega)]; omega) (by decide) (Nat.le_of_ble_eq_true rfl) ?_
      refine pE_aload_n dX9_saveTo_46 rfl rfl ?_
      refine pE_getR dX9_saveTo_47 flX9_18 rfl (by first | assumption | rfl) (by first | assumption | rfl) ?_
      refine pE_iconst (v := nI 0) dX9_saveTo_50 rfl ?_
      refine pE_aload_n dX9_saveTo_51 rfl rfl ?_
      refine pE_iload_n dX9_saveTo_52 rfl rfl ?_
      refine pE_bipush (v := nI 16) dX9_saveTo_53 rfl ?_
      refine pE_iaddN dX9_saveTo_55 ?_
      refine pE_bipush (v := nI 8) dX9_saveTo_56 rfl ?_
      refine pE_acopy dX9_saveTo_58 lkX9_34 (by first | assumption | rfl) (by first | assumption | rfl) (nI_pos (by omega)) (nI_pos (by omega)) (nI_pos (by omega)) (by rw [nI_clamp (by omega), nI_clamp (by omega)]; omega) (by rw [nI_clamp (by omega), nI_clamp (by omega)]; omega) (by decide) (Nat.le_of_ble_eq_true rfl) ?_
      refine pE_aload_n dX9_saveTo_61 rfl rfl ?_
      refine pE_iload_n dX9_saveTo_62 rfl rfl ?_
      refine pE_bipush (v := nI 28) dX9_saveTo_63 rfl ?_
      refine pE_iaddN dX9_saveTo_65 ?_
      refine pE_iconst (v := nI 4) dX9_saveTo_66 rfl ?_
      refine pE_isubN dX9_saveTo_67 (by omega) ?_
      refine pE_aload_n dX9_saveTo_68 rfl rfl ?_
      refine pE_getI dX9_saveTo_69 flX9_21 rfl (Or.inl rfl) (by first | assumption | rfl) ?_
      refine pE_iastoreN dX9_saveTo_72 (by first | assumption | rfl) (by omega) (by omega) ?_
      refine pE_aload_n dX9_saveTo_73 rfl rfl ?_
      refine pE_iload_n dX9_saveTo_74 rfl rfl ?_
      refine pE_bipush (v := nI 28) dX9_saveTo_75 rfl ?_
      refine pE_iaddN dX9_saveTo_77 ?_
      refine pE_iconst (v := nI 3) dX9_saveTo_78 rfl ?_
      refine pE_isubN dX9_saveTo_79 (by omega) ?_
      refine pE_aload_n dX9_saveTo_80 rfl rfl ?_
      refine pE_getI dX9_saveTo_81 flX9_25 rfl (Or.inl rfl) (by first | assumption | rfl) ?_
      refine pE_iastoreN dX9_saveTo_84 (by first | assumption | rfl) (by omega) (by omega) ?_
      refine pE_aload_n dX9_saveTo_85 rfl rfl ?_
      refine pE_iload_n dX9_saveTo_86 rfl rfl ?_
      refine pE_bipush (v := nI 28) dX9_saveTo_87 rfl ?_
      refine pE_iaddN dX9_saveTo_89 ?_
      refine pE_iconst (v := nI 2) dX9_saveTo_90 rfl ?_
      refine pE_isubN dX9_saveTo_91 (by omega) ?_
      refine pE_aload_n dX9_saveTo_92 rfl rfl ?_
      refine pE_getI dX9_saveTo_93 flX9_28 rfl (Or.inl rfl) (by first | assumption | rfl) ?_
      refine pE_iastoreN dX9_saveTo_96 (by first | assumption | rfl) (by omega) (by omega) ?_
      refine pE_aload_n dX9_saveTo_97 rfl rfl ?_
      refine pE_iload_n dX9_saveTo_98 rfl rfl ?_
      refine pE_bipush (v := nI 28) dX9_saveTo_99 rfl ?_
      refine pE_iaddN dX9_saveTo_101 ?_
      refine pE_iconst (v := nI 1) dX9_saveTo_102 rfl ?_
      refine pE_isubN dX9_saveTo_103 (by omega) ?_
      refine pE_aload_n dX9_saveTo_104 rfl rfl ?_
      refine pE_getI dX9_saveTo_105 flX9_31 rfl (Or.inl rfl) (by first | assumption | rfl) ?_
      refine pE_iastoreN dX9_saveTo_108 (by first | assumption | rfl) (by omega) (by omega) ?_
      refine pE_vret dX9_saveTo_109 rfl rfl ?_
      rw [cpyN _ _ (by omega) (by omega) (by omega), cpyN _ _ (by omega) (by omega) (by omega), cpyN _ _ (by omega) (by omega) (by omega)]
      simp only [pu_pz, pz_pz, pz_eq, pz_ne _ _ nb.1, pz_ne _ _ nb.2.1, pz_ne _ _ nb.2.2.1, pz_ne _ _ nb.2.2.2, pu_ne _ _ _ nb.1, Nat.zero_add]
      obtain ⟨s1, s2, s3, s4, s5⟩ := hS
      refine hq _ (fun q hq28 => ?_) (fun q ho => ?_)
      · by_cases c7 : q = 27
        · subst c7; rw [if_pos (by omega)]; exact s4
        rw [if_neg (by omega)]
        by_cases c6 : q = 26
        · subst c6; rw [if_pos (by omega)]; exact s3
        rw [if_neg (by omega)]
        by_cases c5 : q = 25
        · subst c5; rw [if_pos (by omega)]; exact s2
        rw [if_neg (by omega)]
        by_cases c4 : q = 24
        · subst c4; rw [if_pos (by omega)]; exact s1
        rw [if_neg (by omega)]
        by_cases e3 : 16 ≤ q
        · rw [cpy_in (by omega), show 28 * k + q - (k * 28 + 16) = q - 16 by omega]
          have := (s5 (q - 16) (by omega)).2.2
          rw [show 16 + (q - 16) = q by omega] at this
          simpa using this
        · rw [cpy_out (by omega)]
          by_cases e2 : 8 ≤ q
          · rw [cpy_in (by omega), show 28 * k + q - (k * 28 + 8) = q - 8 by omega]
            have := (s5 (q - 8) (by omega)).2.1
            rw [show 8 + (q - 8) = q by omega] at this
            simpa using this
          · rw [cpy_out (by omega), cpy_in (by omega), show 28 * k + q - k * 28 = q by omega]
            simpa using (s5 q (by omega)).1
      · rw [if_neg (by omega), if_neg (by omega), if_neg (by omega), if_neg (by omega), cpy_out (by omega), cpy_out (by omega), cpy_out (by omega)]
    · have g15 := nq_nle (by omega) (by omega) h15
      exact absurd g15 (by omega)
