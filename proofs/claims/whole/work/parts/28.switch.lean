set_option maxHeartbeats 4000000 in
set_option maxRecDepth 100000 in
theorem M_X11_about {l : Launch} {X : pX} {t g : Nat} {I : pHI} {J : pHJ} {Q : pQ} {x : Int32} (ht : isH t) (h1 : ∀ k, k ≤ 12 → x = nI k → Q (some (.int ((([I t 2, I t 0, I 33 4, I 33 3, I 33 5, I 33 6, I 41 2, I 41 3, I 47 5, I 47 6, I 0 1, I t 11, I 45 1] : List Int32).getD k 0)))) I J (pR t g)) (h0 : (∀ k, k ≤ 12 → x ≠ nI k) → Q (some (.int (-1))) I J (pR t g)) : pM l X yX11_about mX11_about 0 [.ref 0, .int x] pK pK I J (pR t g) Q := by
  obtain ⟨fHFht0, fHFht1, fHFht2, fHFht3, fHFht4, fHFht5, fHFht6, fHFht7, fHFht8, fHFht9, fHFht10, fHFht11, fHFht12, fHFht13, fHFht14, fHFht15, fHFht16, fHFht17, fHFht18, fHFht19, fHFht20, fHFht21, fHFht22, fHFht23, fHFht24, fHFht25, fHFht26⟩ := HF t g ht
  refine pM_of rfl (fun h => by cases h) rfl pKM (Nat.le_of_ble_eq_true rfl) ?_
  refine pE_iload_n dX11_about_0 rfl rfl ?_
  by_cases hsw : ∃ k, k ≤ 12 ∧ x = nI k
  · obtain ⟨k, hk, rfl⟩ := hsw
    have hks : k = 0 ∨ k = 1 ∨ k = 2 ∨ k = 3 ∨ k = 4 ∨ k = 5 ∨ k = 6 ∨ k = 7 ∨ k = 8 ∨ k = 9 ∨ k = 10 ∨ k = 11 ∨ k = 12 := by omega
    rcases hks with rfl | rfl | rfl | rfl | rfl | rfl | rfl | rfl | rfl | rfl | rfl | rfl | rfl
    · refine pE_tableIn (off := 67) (tgt := 68) dX11_about_1 (by decide +kernel) (by decide +kernel) rfl (by decide) ?_
      refine pE_aload_n dX11_about_68 rfl rfl ?_
      refine pE_getR dX11_about_69 flX11_29 rfl (by first | assumption | rfl) (by first | assumption | rfl) ?_
      refine pE_getI dX11_about_72 flX11_110 rfl (Or.inl rfl) (by first | assumption | rfl) ?_
      refine pE_iret dX11_about_75 rfl rfl ?_
      exact h1 0 (by omega) rfl
    · refine pE_tableIn (off := 75) (tgt := 76) dX11_about_1 (by decide +kernel) (by decide +kernel) rfl (by decide) ?_
      refine pE_aload_n dX11_about_76 rfl rfl ?_
      refine pE_getR dX11_about_77 flX11_29 rfl (by first | assumption | rfl) (by first | assumption | rfl) ?_
      refine pE_getI dX11_about_80 flX11_210 rfl (Or.inl rfl) (by first | assumption | rfl) ?_
      refine pE_iret dX11_about_83 rfl rfl ?_
      exact h1 1 (by omega) rfl
    · refine pE_tableIn (off := 83) (tgt := 84) dX11_about_1 (by decide +kernel) (by decide +kernel) rfl (by decide) ?_
      refine pE_aload_n dX11_about_84 rfl rfl ?_
      refine pE_getR dX11_about_85 flX11_39 rfl (by first | assumption | rfl) (by first | assumption | rfl) ?_
      refine pE_getI dX11_about_88 flX11_192 rfl (Or.inl rfl) (by first | assumption | rfl) ?_
      refine pE_iret dX11_about_91 rfl rfl ?_
      exact h1 2 (by omega) rfl
    · refine pE_tableIn (off := 91) (tgt := 92) dX11_about_1 (by decide +kernel) (by decide +kernel) rfl (by decide) ?_
      refine pE_aload_n dX11_about_92 rfl rfl ?_
      refine pE_getR dX11_about_93 flX11_39 rfl (by first | assumption | rfl) (by first | assumption | rfl) ?_
      refine pE_getI dX11_about_96 flX11_160 rfl (Or.inl rfl) (by first | assumption | rfl) ?_
      refine pE_iret dX11_about_99 rfl rfl ?_
      exact h1 3 (by omega) rfl
    · refine pE_tableIn (off := 99) (tgt := 100) dX11_about_1 (by decide +kernel) (by decide +kernel) rfl (by decide) ?_
      refine pE_aload_n dX11_about_100 rfl rfl ?_
      refine pE_getR dX11_about_101 flX11_39 rfl (by first | assumption | rfl) (by first | assumption | rfl) ?_
      refine pE_getI dX11_about_104 flX11_186 rfl (Or.inl rfl) (by first | assumption | rfl) ?_
      refine pE_iret dX11_about_107 rfl rfl ?_
      exact h1 4 (by omega) rfl
    · refine pE_tableIn (off := 107) (tgt := 108) dX11_about_1 (by decide +kernel) (by decide +kernel) rfl (by decide) ?_
      refine pE_aload_n dX11_about_108 rfl rfl ?_
      refine pE_getR dX11_about_109 flX11_39 rfl (by first | assumption | rfl) (by first | assumption | rfl) ?_
      refine pE_getI dX11_about_112 flX11_344 rfl (Or.inl rfl) (by first | assumption | rfl) ?_
      refine pE_iret dX11_about_115 rfl rfl ?_
      exact h1 5 (by omega) rfl
    · refine pE_tableIn (off := 115) (tgt := 116) dX11_about_1 (by decide +kernel) (by decide +kernel) rfl (by decide) ?_
      refine pE_aload_n dX11_about_116 rfl rfl ?_
      refine pE_getR dX11_about_117 flX11_49 rfl (by first | assumption | rfl) (by first | assumption | rfl) ?_
      refine pE_getI dX11_about_120 flX11_347 rfl (Or.inl rfl) (by first | assumption | rfl) ?_
      refine pE_iret dX11_about_123 rfl rfl ?_
      exact h1 6 (by omega) rfl
    · refine pE_tableIn (off := 123) (tgt := 124) dX11_about_1 (by decide +kernel) (by decide +kernel) rfl (by decide) ?_
      refine pE_aload_n dX11_about_124 rfl rfl ?_
      refine pE_getR dX11_about_125 flX11_49 rfl (by first | assumption | rfl) (by first | assumption | rfl) ?_
      refine pE_getI dX11_about_128 flX11_350 rfl (Or.inl rfl) (by first | assumption | rfl) ?_
      refine pE_iret dX11_about_131 rfl rfl ?_
      exact h1 7 (by omega) rfl
    · refine pE_tableIn (off := 131) (tgt := 132) dX11_about_1 (by decide +kernel) (by decide +kernel) rfl (by decide) ?_
      refine pE_aload_n dX11_about_132 rfl rfl ?_
      refine pE_getR dX11_about_133 flX11_63 rfl (by first | assumption | rfl) (by first | assumption | rfl) ?_
      refine pE_getI dX11_about_136 flX11_353 rfl (Or.inl rfl) (by first | assumption | rfl) ?_
      refine pE_iret dX11_about_139 rfl rfl ?_
      exact h1 8 (by omega) rfl
    · refine pE_tableIn (off := 139) (tgt := 140) dX11_about_1 (by decide +kernel) (by decide +kernel) rfl (by decide) ?_
      refine pE_aload_n dX11_about_140 rfl rfl ?_
      refine pE_getR dX11_about_141 flX11_63 rfl (by first | assumption | rfl) (by first | assumption | rfl) ?_
      refine pE_getI dX11_about_144 flX11_356 rfl (Or.inl rfl) (by first | assumption | rfl) ?_
      refine pE_iret dX11_about_147 rfl rfl ?_
      exact h1 9 (by omega) rfl
    · refine pE_tableIn (off := 147) (tgt := 148) dX11_about_1 (by decide +kernel) (by decide +kernel) rfl (by decide) ?_
      refine pE_aload_n dX11_about_148 rfl rfl ?_
      refine pE_getI dX11_about_149 flX11_13 rfl (Or.inl rfl) (by first | assumption | rfl) ?_
      refine pE_iret dX11_about_152 rfl rfl ?_
      exact h1 10 (by omega) rfl
    · refine pE_tableIn (off := 152) (tgt := 153) dX11_about_1 (by decide +kernel) (by decide +kernel) rfl (by decide) ?_
      refine pE_aload_n dX11_about_153 rfl rfl ?_
      refine pE_getR dX11_about_154 flX11_29 rfl (by first | assumption | rfl) (by first | assumption | rfl) ?_
      refine pE_getI dX11_about_157 flX11_359 rfl (Or.inl rfl) (by first | assumption | rfl) ?_
      refine pE_iret dX11_about_160 rfl rfl ?_
      exact h1 11 (by omega) rfl
    · refine pE_tableIn (off := 160) (tgt := 161) dX11_about_1 (by decide +kernel) (by decide +kernel) rfl (by decide) ?_
      refine pE_aload_n dX11_about_161 rfl rfl ?_
      refine pE_getR dX11_about_162 flX11_56 rfl (by first | assumption | rfl) (by first | assumption | rfl) ?_
      refine pE_getI dX11_about_165 flX11_362 rfl (Or.inl rfl) (by first | assumption | rfl) ?_
      refine pE_iret dX11_about_168 rfl rfl ?_
      exact h1 12 (by omega) rfl
  · have hno : ∀ k, k ≤ 12 → x ≠ nI k := fun k hk e => hsw ⟨k, hk, e⟩
    refine pE_tableOut (tgt := 169) dX11_about_1 (sw_out (n := 12) (by omega) hno) (by decide) ?_
    refine pE_iconst (v := -1) dX11_about_169 rfl ?_
    refine pE_iret dX11_about_170 rfl rfl ?_
    exact h0 hno
set_option maxHeartbeats 4000000 in
set_option maxRecDepth 100000 in
theorem M_X12_about {l : Launch} {X : pX} {t g : Nat} {I : pHI} {J : pHJ} {Q : pQ} {x : Int32}  (h1 : ∀ k, k ≤ 12 → x = nI k → Q (some (.int ((([I 67 42, I 67 41, I 90 25, I 90 24, I 90 26, I 90 27, I 67 48, I 67 49, I 67 64, I 67 65, I 67 1, I 67 23, I 67 52] : List Int32).getD k 0)))) I J (pR t g)) (h0 : (∀ k, k ≤ 12 → x ≠ nI k) → Q (some (.int (-1))) I J (pR t g)) : pM l X yX12_about mX12_about 0 [.ref 67, .int x] pK pK I J (pR t g) Q := by
  refine pM_of rfl (fun h => by cases h) rfl pKM (Nat.le_of_ble_eq_true rfl) ?_
  refine pE_iload_n dX12_about_0 rfl rfl ?_
  by_cases hsw : ∃ k, k ≤ 12 ∧ x = nI k
  · obtain ⟨k, hk, rfl⟩ := hsw
    have hks : k = 0 ∨ k = 1 ∨ k = 2 ∨ k = 3 ∨ k = 4 ∨ k = 5 ∨ k = 6 ∨ k = 7 ∨ k = 8 ∨ k = 9 ∨ k = 10 ∨ k = 11 ∨ k = 12 := by omega
    rcases hks with rfl | rfl | rfl | rfl | rfl | rfl | rfl | rfl | rfl | rfl | rfl | rfl | rfl
    · refine pE_tableIn (off := 67) (tgt := 68) dX12_about_1 (by decide +kernel) (by decide +kernel) rfl (by decide) ?_
      refine pE_aload_n dX12_about_68 rfl rfl ?_
      refine pE_getI dX12_about_69 flX12_350 rfl (Or.inl rfl) (by first | assumption | rfl) ?_
      refine pE_iret dX12_about_72 rfl rfl ?_
      exact h1 0 (by omega) rfl
    · refine pE_tableIn (off := 72) (tgt := 73) dX12_about_1 (by decide +kernel) (by decide +kernel) rfl (by decide) ?_
      refine pE_aload_n dX12_about_73 rfl rfl ?_
      refine pE_getI dX12_about_74 flX12_82 rfl (Or.inl rfl) (by first | assumption | rfl) ?_
      refine pE_iret dX12_about_77 rfl rfl ?_
      exact h1 1 (by omega) rfl
    · refine pE_tableIn (off := 77) (tgt := 78) dX12_about_1 (by decide +kernel) (by decide +kernel) rfl (by decide) ?_
      refine pE_aload_n dX12_about_78 rfl rfl ?_
      refine pE_getR dX12_about_79 flX12_85 rfl (by first | assumption | rfl) (by first | assumption | rfl) ?_
      refine pE_bipush (v := nI 25) dX12_about_82 rfl ?_
      refine pE_ialoadN dX12_about_84 (by first | assumption | rfl) (by first | assumption | omega) (by omega) ?_
      refine pE_iret dX12_about_85 rfl rfl ?_
      exact h1 2 (by omega) rfl
    · refine pE_tableIn (off := 85) (tgt := 86) dX12_about_1 (by decide +kernel) (by decide +kernel) rfl (by decide) ?_
      refine pE_aload_n dX12_about_86 rfl rfl ?_
      refine pE_getR dX12_about_87 flX12_85 rfl (by first | assumption | rfl) (by first | assumption | rfl) ?_
      refine pE_bipush (v := nI 24) dX12_about_90 rfl ?_
      refine pE_ialoadN dX12_about_92 (by first | assumption | rfl) (by first | assumption | omega) (by omega) ?_
      refine pE_iret dX12_about_93 rfl rfl ?_
      exact h1 3 (by omega) rfl
    · refine pE_tableIn (off := 93) (tgt := 94) dX12_about_1 (by decide +kernel) (by decide +kernel) rfl (by decide) ?_
      refine pE_aload_n dX12_about_94 rfl rfl ?_
      refine pE_getR dX12_about_95 flX12_85 rfl (by first | assumption | rfl) (by first | assumption | rfl) ?_
      refine pE_bipush (v := nI 26) dX12_about_98 rfl ?_
      refine pE_ialoadN dX12_about_100 (by first | assumption | rfl) (by first | assumption | omega) (by omega) ?_
      refine pE_iret dX12_about_101 rfl rfl ?_
      exact h1 4 (by omega) rfl
    · refine pE_tableIn (off := 101) (tgt := 102) dX12_about_1 (by decide +kernel) (by decide +kernel) rfl (by decide) ?_
      refine pE_aload_n dX12_about_102 rfl rfl ?_
      refine pE_getR dX12_about_103 flX12_85 rfl (by first | assumption | rfl) (by first | assumption | rfl) ?_
      refine pE_bipush (v := nI 27) dX12_about_106 rfl ?_
      refine pE_ialoadN dX12_about_108 (by first | assumption | rfl) (by first | assumption | omega) (by omega) ?_
      refine pE_iret dX12_about_109 rfl rfl ?_
      exact h1 5 (by omega) rfl
    · refine pE_tableIn (off := 109) (tgt := 110) dX12_about_1 (by decide +kernel) (by decide +kernel) rfl (by decide) ?_
      refine pE_aload_n dX12_about_110 rfl rfl ?_
      refine pE_getI dX12_about_111 flX12_356 rfl (Or.inl rfl) (by first | assumption | rfl) ?_
      refine pE_iret dX12_about_114 rfl rfl ?_
      exact h1 6 (by omega) rfl
    · refine pE_tableIn (off := 114) (tgt := 115) dX12_about_1 (by decide +kernel) (by decide +kernel) rfl (by decide) ?_
      refine pE_aload_n dX12_about_115 rfl rfl ?_
      refine pE_getI dX12_about_116 flX12_359 rfl (Or.inl rfl) (by first | assumption | rfl) ?_
      refine pE_iret dX12_about_119 rfl rfl ?_
      exact h1 7 (by omega) rfl
    · refine pE_tableIn (off := 119) (tgt := 120) dX12_about_1 (by decide +kernel) (by decide +kernel) rfl (by decide) ?_
      refine pE_aload_n dX12_about_120 rfl rfl ?_
      refine pE_getI dX12_about_121 flX12_362 rfl (Or.inl rfl) (by first | assumption | rfl) ?_
      refine pE_iret dX12_about_124 rfl rfl ?_
      exact h1 8 (by omega) rfl
    · refine pE_tableIn (off := 124) (tgt := 125) dX12_about_1 (by decide +kernel) (by decide +kernel) rfl (by decide) ?_
      refine pE_aload_n dX12_about_125 rfl rfl ?_
      refine pE_getI dX12_about_126 flX12_485 rfl (Or.inl rfl) (by first | assumption | rfl) ?_
      refine pE_iret dX12_about_129 rfl rfl ?_
      exact h1 9 (by omega) rfl
    · refine pE_tableIn (off := 129) (tgt := 130) dX12_about_1 (by decide +kernel) (by decide +kernel) rfl (by decide) ?_
      refine pE_aload_n dX12_about_130 rfl rfl ?_
      refine pE_getI dX12_about_131 flX12_142 rfl (Or.inl rfl) (by first | assumption | rfl) ?_
      refine pE_iret dX12_about_134 rfl rfl ?_
      exact h1 10 (by omega) rfl
    · refine pE_tableIn (off := 134) (tgt := 135) dX12_about_1 (by decide +kernel) (by decide +kernel) rfl (by decide) ?_
      refine pE_aload_n dX12_about_135 rfl rfl ?_
      refine pE_getI dX12_about_136 flX12_353 rfl (Or.inl rfl) (by first | assumption | rfl) ?_
      refine pE_iret dX12_about_139 rfl rfl ?_
      exact h1 11 (by omega) rfl
    · refine pE_tableIn (off := 139) (tgt := 140) dX12_about_1 (by decide +kernel) (by decide +kernel) rfl (by decide) ?_
      refine pE_aload_n dX12_about_140 rfl rfl ?_
      refine pE_getI dX12_about_141 flX12_365 rfl (Or.inl rfl) (by first | assumption | rfl) ?_
      refine pE_iret dX12_about_144 rfl rfl ?_
      exact h1 12 (by omega) rfl
  · have hno : ∀ k, k ≤ 12 → x ≠ nI k := fun k hk e => hsw ⟨k, hk, e⟩
    refine pE_tableOut (tgt := 145) dX12_about_1 (sw_out (n := 12) (by omega) hno) (by decide) ?_
    refine pE_iconst (v := -1) dX12_about_145 rfl ?_
    refine pE_iret dX12_about_146 rfl rfl ?_
    exact h0 hno
set_option maxHeartbeats 4000000 in
set_option maxRecDepth 100000 in
theorem M_X0_passTime {l : Launch} {X : pX} {t g : Nat} {I : pHI} {J : pHJ} {Q : pQ} {u : Nat} {x : Int32} (hu : I 47 6 = nI u) (h5 : u ≤ 100000) (h1 : ∀ b, x = nI b → b ≤ 1000 → u + b ≤ 100000 → Q (some (.int (nI (u + b)))) (pu I 47 6 (nI (u + b))) J (pR t g)) (h0 : (∀ b, x = nI b → b ≤ 1000 → ¬ u + b ≤ 100000) → Q (some (.int (-1))) I J (pR t g)) : pM l X yX0_passTime mX0_passTime 0 [.ref 47, .int x] pK pK I J (pR t g) Q := by
  refine pM_of rfl (fun h => by cases h) rfl pKM (Nat.le_of_ble_eq_true rfl) ?_
  rcases nI_or x with hx | ⟨b, hb, rfl⟩
  · refine pE_iload_n dX0_passTime_0 rfl rfl ?_
    refine pE_if_lt (tgt := 22) dX0_passTime_1 (by decide) (fun h1' => ?_) (fun h1' => ?_)
    · refine pE_iconst (v := -1) dX0_passTime_22 rfl ?_
      refine pE_iret dX0_passTime_23 rfl rfl ?_
      exact h0 (fun b hb h1k => by rw [hb] at hx; exact absurd hx (nI_pos (by omega)))
    · exact absurd hx h1'
  · refine pE_iload_n dX0_passTime_0 rfl rfl ?_
    refine pE_if_lt (tgt := 22) dX0_passTime_1 (by decide) (fun h1' => ?_) (fun h1' => ?_)
    · exact absurd h1' (nI_pos (by omega))
    · refine pE_iload_n dX0_passTime_4 rfl rfl ?_
      refine pE_sipush (v := nI 1000) dX0_passTime_5 rfl ?_
      refine pE_icmp_gt (tgt := 22) dX0_passTime_8 (by decide) (fun h8 => ?_) (fun h8 => ?_)
      · have g8 := nq_lt (by omega) (by omega) h8
        refine pE_iconst (v := -1) dX0_passTime_22 rfl ?_
        refine pE_iret dX0_passTime_23 rfl rfl ?_
        first | exact h1 b rfl (by omega) (by omega) | exact h0 (fun i e hi => by have := nq_eq hb (by omega) e; omega)
      · have g8 := nq_nlt (by omega) (by omega) h8
        refine pE_aload_n dX0_passTime_11 rfl rfl ?_
        refine pE_getI dX0_passTime_12 flX0_32 rfl (Or.inl rfl) (by first | assumption | rfl) ?_
        rw [hu]
        refine pE_ldc dX0_passTime_15 kcX0_56 ?_
        rw [show (100000 : Int32) = nI 100000 from rfl]
        refine pE_iload_n dX0_passTime_17 rfl rfl ?_
        refine pE_isubN dX0_passTime_18 (by omega) ?_
        refine pE_icmp_le (tgt := 24) dX0_passTime_19 (by decide) (fun h19 => ?_) (fun h19 => ?_)
        · have g19 := nq_le (by omega) (by omega) h19
          refine pE_aload_n dX0_passTime_24 rfl rfl ?_
          refine pE_dupR dX0_passTime_25 ?_
          refine pE_getI dX0_passTime_26 flX0_32 rfl (Or.inl rfl) (by first | assumption | rfl) ?_
          rw [hu]
          refine pE_iload_n dX0_passTime_29 rfl rfl ?_
          refine pE_iaddN dX0_passTime_30 ?_
          refine pE_putI dX0_passTime_31 flX0_32 ftX0 fiX0_6 rfl rfl (by first | assumption | rfl) ?_
          refine pE_aload_n dX0_passTime_34 rfl rfl ?_
          refine pE_getI dX0_passTime_35 flX0_32 rfl (Or.inl rfl) (by first | assumption | rfl) ?_
          rw [pu_at, if_pos ⟨rfl, rfl⟩]
          refine pE_iret dX0_passTime_38 rfl rfl ?_
          first | exact h1 b rfl (by omega) (by omega) | exact h0 (fun i e hi => by have := nq_eq hb (by omega) e; omega)
        · have g19 := nq_nle (by omega) (by omega) h19
          refine pE_iconst (v := -1) dX0_passTime_22 rfl ?_
          refine pE_iret dX0_passTime_23 rfl rfl ?_
          first | exact h1 b rfl (by omega) (by omega) | exact h0 (fun i e hi => by have := nq_eq hb (by omega) e; omega)
set_option maxHeartbeats 4000000 in
set_option maxRecDepth 100000 in
theorem M_X12_later {l : Launch} {X : pX} {t g : Nat} {I : pHI} {J : pHJ} {Q : pQ} {u : Nat} {x : Int32} (hu : I 67 65 = nI u) (h5 : u ≤ 100000) (h1 : ∀ b, x = nI b → b ≤ 1000 → u + b ≤ 100000 → Q (some (.int (nI (u + b)))) (pu I 67 65 (nI (u + b))) J (pR t g)) (h0 : (∀ b, x = nI b → b ≤ 1000 → ¬ u + b ≤ 100000) → Q (some (.int (-1))) I J (pR t g)) : pM l X yX12_later mX12_later 0 [.ref 67, .int x] pK pK I J (pR t g) Q := by
  refine pM_of rfl (fun h => by cases h) rfl pKM (Nat.le_of_ble_eq_true rfl) ?_
  rcases nI_or x with hx | ⟨b, hb, rfl⟩
  · refine pE_iload_n dX12_later_0 rfl rfl ?_
    refine pE_if_lt (tgt := 23) dX12_later_1 (by decide) (fun h1' => ?_) (fun h1' => ?_)
    · refine pE_iconst (v := -1) dX12_later_23 rfl ?_
      refine pE_iret dX12_later_24 rfl rfl ?_
      exact h0 (fun b hb h1k => by rw [hb] at hx; exact absurd hx (nI_pos (by omega)))
    · exact absurd hx h1'
  · refine pE_iload_n dX12_later_0 rfl rfl ?_
    refine pE_if_lt (tgt := 23) dX12_later_1 (by decide) (fun h1' => ?_) (fun h1' => ?_)
    · exact absurd h1' (nI_pos (by omega))
    · refine pE_iload_n dX12_later_4 rfl rfl ?_
      refine pE_sipush (v := nI 1000) dX12_later_5 rfl ?_
      refine pE_icmp_gt (tgt := 23) dX12_later_8 (by decide) (fun h8 => ?_) (fun h8 => ?_)
      · have g8 := nq_lt (by omega) (by omega) h8
        refine pE_iconst (v := -1) dX12_later_23 rfl ?_
        refine pE_iret dX12_later_24 rfl rfl ?_
        first | exact h1 b rfl (by omega) (by omega) | exact h0 (fun i e hi => by have := nq_eq hb (by omega) e; omega)
      · have g8 := nq_nlt (by omega) (by omega) h8
        refine pE_aload_n dX12_later_11 rfl rfl ?_
        refine pE_getI dX12_later_12 flX12_485 rfl (Or.inl rfl) (by first | assumption | rfl) ?_
        rw [hu]
        refine pE_iload_n dX12_later_15 rfl rfl ?_
        refine pE_iaddN dX12_later_16 ?_
        refine pE_ldcw dX12_later_17 kcX12_492 ?_
        rw [show (100000 : Int32) = nI 100000 from rfl]
        refine pE_icmp_le (tgt := 25) dX12_later_20 (by decide) (fun h20 => ?_) (fun h20 => ?_)
        · have g20 := nq_le (by omega) (by omega) h20
          refine pE_aload_n dX12_later_25 rfl rfl ?_
          refine pE_dupR dX12_later_26 ?_
          refine pE_getI dX12_later_27 flX12_485 rfl (Or.inl rfl) (by first | assumption | rfl) ?_
          rw [hu]
          refine pE_iload_n dX12_later_30 rfl rfl ?_
          refine pE_iaddN dX12_later_31 ?_
          refine pE_putI dX12_later_32 flX12_485 ftX12 fiX12_65 rfl rfl (by first | assumption | rfl) ?_
          refine pE_aload_n dX12_later_35 rfl rfl ?_
          refine pE_getI dX12_later_36 flX12_485 rfl (Or.inl rfl) (by first | assumption | rfl) ?_
          rw [pu_at, if_pos ⟨rfl, rfl⟩]
          refine pE_iret dX12_later_39 rfl rfl ?_
          first | exact h1 b rfl (by omega) (by omega) | exact h0 (fun i e hi => by have := nq_eq hb (by omega) e; omega)
        · have g20 := nq_nle (by omega) (by omega) h20
          refine pE_iconst (v := -1) dX12_later_23 rfl ?_
          refine pE_iret dX12_later_24 rfl rfl ?_
          first | exact h1 b rfl (by omega) (by omega) | exact h0 (fun i e hi => by have := nq_eq hb (by omega) e; omega)
set_option maxHeartbeats 4000000 in
set_option maxRecDepth 100000 in
theorem M_X11_later {l : Launch} {X : pX} {t g : Nat} {I : pHI} {J : pHJ} {Q : pQ} {u : Nat} {x : Int32} (hu : I 47 6 = nI u) (h5 : u ≤ 100000) (h1 : ∀ b, x = nI b → b ≤ 1000 → u + b ≤ 100000 → Q (some (.int (nI (u + b)))) (pu I 47 6 (nI (u + b))) J (pR t g)) (h0 : (∀ b, x = nI b → b ≤ 1000 → ¬ u + b ≤ 100000) → Q (some (.int (-1))) I J (pR t g)) : pM l X yX11_later mX11_later 1 [.ref 0, .int x] pK pK I J (pR t g) Q := by
  refine pM_of rfl (fun h => by cases h) rfl pKM (Nat.le_of_ble_eq_true rfl) ?_
  refine pE_aload_n dX11_later_0 rfl rfl ?_
  refine pE_getR dX11_later_1 flX11_63 rfl (by first | assumption | rfl) (by first | assumption | rfl) ?_
  refine pE_iload_n dX11_later_4 rfl rfl ?_
  refine pE_callV (d' := 0) (as := [_]) dX11_later_5 lkX11_321 (cwX0_passTime _ _) ivX0_passTime ⟨_, rfl, rfl⟩ (by first | assumption | rfl) rfl rfl (Nat.le_of_ble_eq_true rfl) (by decide) pKK ?_
  refine M_X0_passTime hu h5 (fun b e hb hs => ?_) (fun hno => ?_)
  · refine pE_iret dX11_later_8 rfl rfl ?_
    first | exact h1 b e hb hs | exact h0 hno
  · refine pE_iret dX11_later_8 rfl rfl ?_
    first | exact h1 b e hb hs | exact h0 hno
set_option maxHeartbeats 4000000 in
set_option maxRecDepth 100000 in
theorem M_X11_tenant {l : Launch} {X : pX} {t g : Nat} {I : pHI} {J : pHJ} {Q : pQ} {x y : Int32} {H T : pN} (ht : isH t) (hH : cH t H I) (hr : rH H) (hS : cS 33 T I) (hrT : rS 999 H T) (h1 : ∀ j, j < H 1 → y = nI j → ∀ k, k ≤ 8 → x = nI k → Q (some (.int (nI (([H (8 + j), H (16 + j), H (24 + j), H (32 + j), H (40 + j), T j, T (8 + j), T (16 + j), lackN H T j] : List Nat).getD k 0)))) I J (pR t g)) (h0 : ((∀ j, j < H 1 → y ≠ nI j) ∨ ∀ k, k ≤ 8 → x ≠ nI k) → Q (some (.int (-1))) I J (pR t g)) : pM l X yX11_tenant mX11_tenant 2 [.ref 0, .int y, .int x] pK pK I J (pR t g) Q := by
  obtain ⟨fHFht0, fHFht1, fHFht2, fHFht3, fHFht4, fHFht5, fHFht6, fHFht7, fHFht8, fHFht9, fHFht10, fHFht11, fHFht12, fHFht13, fHFht14, fHFht15, fHFht16, fHFht17, fHFht18, fHFht19, fHFht20, fHFht21, fHFht22, fHFht23, fHFht24, fHFht25, fHFht26⟩ := HF t g ht
  refine pM_of rfl (fun h => by cases h) rfl pKM (Nat.le_of_ble_eq_true rfl) ?_
  have hn8 := hr.2.1
  refine pE_aload_n dX11_tenant_0 rfl rfl ?_
  refine pE_getR dX11_tenant_1 flX11_29 rfl (by first | assumption | rfl) (by first | assumption | rfl) ?_
  refine pE_iload_n dX11_tenant_4 rfl rfl ?_
  refine pE_callV (d' := 0) (as := [_]) dX11_tenant_5 lkX11_119 (cwX2_hasTenant _ _) ivX2_hasTenant ⟨_, rfl, rfl⟩ (by first | assumption | rfl) rfl rfl (Nat.le_of_ble_eq_true rfl) (by decide) pKK ?_
  refine M_X2_hasTenant (H := H) ht hH.2.2.1 hn8 (fun j hj e => ?_) (fun hno => ?_)
  · subst e
    have hrj := hr.2.2.2.2 j (by omega)
    have hsj := hrT.2.2.2.2 j (by omega)
    have hb5 := hrT.2.1
    have hb2 : T (16 + j) ≤ 100000000 := by have := Nat.mul_le_mul_left 1000 hb5; omega
    obtain ⟨c1, c2, c3, c4, c5⟩ := hH.2.2.2.2.2 j (by omega)
    obtain ⟨d1, d2, d3⟩ := hS.2.2.2.2 j (by omega)
    refine pE_if_ne_t (tgt := 13) dX11_tenant_8 (by decide) nI_1n0 ?_
    refine pE_iload_n dX11_tenant_13 rfl rfl ?_
    by_cases hsw : ∃ k, k ≤ 8 ∧ x = nI k
    · obtain ⟨k, hk, rfl⟩ := hsw
      have hks : k = 0 ∨ k = 1 ∨ k = 2 ∨ k = 3 ∨ k = 4 ∨ k = 5 ∨ k = 6 ∨ k = 7 ∨ k = 8 := by omega
      rcases hks with rfl | rfl | rfl | rfl | rfl | rfl | rfl | rfl | rfl
      · refine pE_tableIn (off := 50) (tgt := 64) dX11_tenant_14 (by decide +kernel) (by decide +kernel) rfl (by decide) ?_
        refine pE_aload_n dX11_tenant_64 rfl rfl ?_
        refine pE_getR dX11_tenant_65 flX11_29 rfl (by first | assumption | rfl) (by first | assumption | rfl) ?_
        refine pE_getR dX11_tenant_68 flX11_123 rfl (by first | assumption | rfl) (by first | assumption | rfl) ?_
        refine pE_iload_n dX11_tenant_71 rfl rfl ?_
        refine pE_ialoadN dX11_tenant_72 (by first | assumption | rfl) (by omega) (by omega) ?_
        rw [c1]
        refine pE_iret dX11_tenant_73 rfl rfl ?_
        exact h1 j hj rfl 0 (by omega) rfl
      · refine pE_tableIn (off := 60) (tgt := 74) dX11_tenant_14 (by decide +kernel) (by decide +kernel) rfl (by decide) ?_
        refine pE_aload_n dX11_tenant_74 rfl rfl ?_
        refine pE_getR dX11_tenant_75 flX11_29 rfl (by first | assumption | rfl) (by first | assumption | rfl) ?_
        refine pE_getR dX11_tenant_78 flX11_127 rfl (by first | assumption | rfl) (by first | assumption | rfl) ?_
        refine pE_iload_n dX11_tenant_81 rfl rfl ?_
        refine pE_ialoadN dX11_tenant_82 (by first | assumption | rfl) (by omega) (by omega) ?_
        rw [c2]
        refine pE_iret dX11_tenant_83 rfl rfl ?_
        exact h1 j hj rfl 1 (by omega) rfl
      · refine pE_tableIn (off := 70) (tgt := 84) dX11_tenant_14 (by decide +kernel) (by decide +kernel) rfl (by decide) ?_
        refine pE_aload_n dX11_tenant_84 rfl rfl ?_
        refine pE_getR dX11_tenant_85 flX11_29 rfl (by first | assumption | rfl) (by first | assumption | rfl) ?_
        refine pE_getR dX11_tenant_88 flX11_130 rfl (by first | assumption | rfl) (by first | assumption | rfl) ?_
        refine pE_iload_n dX11_tenant_91 rfl rfl ?_
        refine pE_ialoadN dX11_tenant_92 (by first | assumption | rfl) (by omega) (by omega) ?_
        rw [c3]
        refine pE_iret dX11_tenant_93 rfl rfl ?_
        exact h1 j hj rfl 2 (by omega) rfl
      · refine pE_tableIn (off := 80) (tgt := 94) dX11_tenant_14 (by decide +kernel) (by decide +kernel) rfl (by decide) ?_
        refine pE_aload_n dX11_tenant_94 rfl rfl ?_
        refine pE_getR dX11_tenant_95 flX11_29 rfl (by first | assumption | rfl) (by first | assumption | rfl) ?_
        refine pE_getR dX11_tenant_98 flX11_133 rfl (by first | assumption | rfl) (by first | assumption | rfl) ?_
        refine pE_iload_n dX11_tenant_101 rfl rfl ?_
        refine pE_ialoadN dX11_tenant_102 (by first | assumption | rfl) (by omega) (by omega) ?_
        rw [c4]
        refine pE_iret dX11_tenant_103 rfl rfl ?_
        exact h1 j hj rfl 3 (by omega) rfl
      · refine pE_tableIn (off := 90) (tgt := 104) dX11_tenant_14 (by decide +kernel) (by decide +kernel) rfl (by decide) ?_
        refine pE_aload_n dX11_tenant_104 rfl rfl ?_
        refine pE_getR dX11_tenant_105 flX11_29 rfl (by first | assumption | rfl) (by first | assumption | rfl) ?_
        refine pE_getR dX11_tenant_108 flX11_136 rfl (by first | assumption | rfl) (by first | assumption | rfl) ?_
        refine pE_iload_n dX11_tenant_111 rfl rfl ?_
        refine pE_ialoadN dX11_tenant_112 (by first | assumption | rfl) (by omega) (by omega) ?_
        rw [c5]
        refine pE_iret dX11_tenant_113 rfl rfl ?_
        exact h1 j hj rfl 4 (by omega) rfl
      · refine pE_tableIn (off := 100) (tgt := 114) dX11_tenant_14 (by decide +kernel) (by decide +kernel) rfl (by decide) ?_
        refine pE_aload_n dX11_tenant_114 rfl rfl ?_
        refine pE_getR dX11_tenant_115 flX11_39 rfl (by first | assumption | rfl) (by first | assumption | rfl) ?_
        refine pE_getR dX11_tenant_118 flX11_139 rfl (by first | assumption | rfl) (by first | assumption | rfl) ?_
        refine pE_iload_n dX11_tenant_121 rfl rfl ?_
        refine pE_ialoadN dX11_tenant_122 (by first | assumption | rfl) (by omega) (by omega) ?_
        rw [d1]
        refine pE_iret dX11_tenant_123 rfl rfl ?_
        exact h1 j hj rfl 5 (by omega) rfl
      · refine pE_tableIn (off := 110) (tgt := 124) dX11_tenant_14 (by decide +kernel) (by decide +kernel) rfl (by decide) ?_
        refine pE_aload_n dX11_tenant_124 rfl rfl ?_
        refine pE_getR dX11_tenant_125 flX11_39 rfl (by first | assumption | rfl) (by first | assumption | rfl) ?_
        refine pE_getR dX11_tenant_128 flX11_142 rfl (by first | assumption | rfl) (by first | assumption | rfl) ?_
        refine pE_iload_n dX11_tenant_131 rfl rfl ?_
        refine pE_ialoadN dX11_tenant_132 (by first | assumption | rfl) (by omega) (by omega) ?_
        rw [d2]
        refine pE_iret dX11_tenant_133 rfl rfl ?_
        exact h1 j hj rfl 6 (by omega) rfl
      · refine pE_tableIn (off := 120) (tgt := 134) dX11_tenant_14 (by decide +kernel) (by decide +kernel) rfl (by decide) ?_
        refine pE_aload_n dX11_tenant_134 rfl rfl ?_
        refine pE_getR dX11_tenant_135 flX11_39 rfl (by first | assumption | rfl) (by first | assumption | rfl) ?_
        refine pE_getR dX11_tenant_138 flX11_145 rfl (by first | assumption | rfl) (by first | assumption | rfl) ?_
        refine pE_iload_n dX11_tenant_141 rfl rfl ?_
        refine pE_ialoadN dX11_tenant_142 (by first | assumption | rfl) (by omega) (by omega) ?_
        rw [d3]
        refine pE_iret dX11_tenant_143 rfl rfl ?_
        exact h1 j hj rfl 7 (by omega) rfl
      · refine pE_tableIn (off := 130) (tgt := 144) dX11_tenant_14 (by decide +kernel) (by decide +kernel) rfl (by decide) ?_
        refine pE_aload_n dX11_tenant_144 rfl rfl ?_
        refine pE_getR dX11_tenant_145 flX11_29 rfl (by first | assumption | rfl) (by first | assumption | rfl) ?_
        refine pE_aload_n dX11_tenant_148 rfl rfl ?_
        refine pE_getR dX11_tenant_149 flX11_39 rfl (by first | assumption | rfl) (by first | assumption | rfl) ?_
        refine pE_iload_n dX11_tenant_152 rfl rfl ?_
        refine pE_callV (d' := 1) (as := [_, _]) dX11_tenant_153 lkX11_148 (cwX2_lackOf _ _) ivX2_lackOf ⟨_, rfl, rfl⟩ (by first | assumption | rfl) rfl rfl (Nat.le_of_ble_eq_true rfl) (by decide) pKK ?_
        refine M_X2_lackOf (H := H) (T := T) ht (Or.inl rfl) (by omega) c4 d3 d2 hrj.2.2.2.1 hb2 hsj.2.1 ?_
        refine pE_iret dX11_tenant_156 rfl rfl ?_
        exact h1 j hj rfl 8 (by omega) rfl
    · have hno : ∀ k, k ≤ 8 → x ≠ nI k := fun k hk e => hsw ⟨k, hk, e⟩
      refine pE_tableOut (tgt := 157) dX11_tenant_14 (sw_out (n := 8) (by omega) hno) (by decide) ?_
      refine pE_iconst (v := -1) dX11_tenant_157 rfl ?_
      refine pE_iret dX11_tenant_158 rfl rfl ?_
      exact h0 (Or.inr hno)
  · refine pE_if_ne_f (tgt := 13) dX11_tenant_8 (by decide) nI_0 ?_
    refine pE_iconst (v := -1) dX11_tenant_11 rfl ?_
    refine pE_iret dX11_tenant_12 rfl rfl ?_
    exact h0 (Or.inl hno)
set_option maxHeartbeats 4000000 in
set_option maxRecDepth 100000 in
theorem M_X12_tenant {l : Launch} {X : pX} {t g : Nat} {I : pHI} {J : pHJ} {Q : pQ} {x y : Int32} {H T : pN} (hH : mH H I) (hr : rH H) (hS : mS 90 T I) (hrT : rS 999 H T) (h1 : ∀ j, j < H 1 → y = nI j → ∀ k, k ≤ 8 → x = nI k → ∀ I1, sm I I1 → Q (some (.int (nI (([H (8 + j), H (16 + j), H (24 + j), H (32 + j), H (40 + j), T j, T (8 + j), T (16 + j), lackN H T j] : List Nat).getD k 0)))) I1 J (pR t g)) (h0 : ((∀ j, j < H 1 → y ≠ nI j) ∨ ∀ k, k ≤ 8 → x ≠ nI k) → ∀ I1, sm I I1 → Q (some (.int (-1))) I1 J (pR t g)) : pM l X yX12_tenant mX12_tenant 2 [.ref 67, .int y, .int x] pK pK I J (pR t g) Q := by
  refine pM_of rfl (fun h => by cases h) rfl pKM (Nat.le_of_ble_eq_true rfl) ?_
  have hn8 := hr.2.1
  refine pE_aload_n dX12_tenant_0 rfl rfl ?_
  refine pE_iload_n dX12_tenant_1 rfl rfl ?_
  refine pE_callV (d' := 1) (as := [_]) dX12_tenant_2 lkX12_382 (cwX12_isTenant _ _) ivX12_isTenant ⟨_, rfl, rfl⟩ (by first | assumption | rfl) rfl rfl (Nat.le_of_ble_eq_true rfl) (by decide) pKK ?_
  refine M_X12_isTenant (H := H) hH.2.1 hn8 (fun j hj e => ?_) (fun hno => ?_)
  · subst e
    have hrj := hr.2.2.2.2 j (by omega)
    have hsj := hrT.2.2.2.2 j (by omega)
    have hb5 := hrT.2.1
    have hb2 : T (16 + j) ≤ 100000000 := by have := Nat.mul_le_mul_left 1000 hb5; omega
    obtain ⟨c1, c2, c3, c4, c5⟩ := hH.2.2.2 j (by omega)
    refine pE_if_ne_t (tgt := 10) dX12_tenant_5 (by decide) nI_1n0 ?_
    refine pE_aload_n dX12_tenant_10 rfl rfl ?_
    refine pE_callV (d' := 0) (as := []) dX12_tenant_11 lkX12_394 (cwX12_load _ _) ivX12_load ⟨_, rfl, rfl⟩ (by first | assumption | rfl) rfl rfl (Nat.le_of_ble_eq_true rfl) (by decide) pKK ?_
    refine M_X12_load ?_
    refine pE_iload_n dX12_tenant_14 rfl rfl ?_
    by_cases hsw : ∃ k, k ≤ 8 ∧ x = nI k
    · obtain ⟨k, hk, rfl⟩ := hsw
      have hks : k = 0 ∨ k = 1 ∨ k = 2 ∨ k = 3 ∨ k = 4 ∨ k = 5 ∨ k = 6 ∨ k = 7 ∨ k = 8 := by omega
      rcases hks with rfl | rfl | rfl | rfl | rfl | rfl | rfl | rfl | rfl
      · refine pE_tableIn (off := 49) (tgt := 64) dX12_tenant_15 (by decide +kernel) (by decide +kernel) rfl (by decide) ?_
        refine pE_aload_n dX12_tenant_64 rfl rfl ?_
        refine pE_getR dX12_tenant_65 flX12_67 rfl (by first | assumption | rfl) (by first | assumption | rfl) ?_
        refine pE_iload_n dX12_tenant_68 rfl rfl ?_
        refine pE_ialoadN dX12_tenant_69 (by first | assumption | rfl) (by omega) (by omega) ?_
        rw [pz_ne _ _ (by decide : (85 : Nat) ≠ 91), c1]
        refine pE_iret dX12_tenant_70 rfl rfl ?_
        exact h1 j hj rfl 0 (by omega) rfl _ sm.load
      · refine pE_tableIn (off := 56) (tgt := 71) dX12_tenant_15 (by decide +kernel) (by decide +kernel) rfl (by decide) ?_
        refine pE_aload_n dX12_tenant_71 rfl rfl ?_
        refine pE_getR dX12_tenant_72 flX12_70 rfl (by first | assumption | rfl) (by first | assumption | rfl) ?_
        refine pE_iload_n dX12_tenant_75 rfl rfl ?_
        refine pE_ialoadN dX12_tenant_76 (by first | assumption | rfl) (by omega) (by omega) ?_
        rw [pz_ne _ _ (by decide : (86 : Nat) ≠ 91), c2]
        refine pE_iret dX12_tenant_77 rfl rfl ?_
        exact h1 j hj rfl 1 (by omega) rfl _ sm.load
      · refine pE_tableIn (off := 63) (tgt := 78) dX12_tenant_15 (by decide +kernel) (by decide +kernel) rfl (by decide) ?_
        refine pE_aload_n dX12_tenant_78 rfl rfl ?_
        refine pE_getR dX12_tenant_79 flX12_73 rfl (by first | assumption | rfl) (by first | assumption | rfl) ?_
        refine pE_iload_n dX12_tenant_82 rfl rfl ?_
        refine pE_ialoadN dX12_tenant_83 (by first | assumption | rfl) (by omega) (by omega) ?_
        rw [pz_ne _ _ (by decide : (87 : Nat) ≠ 91), c3]
        refine pE_iret dX12_tenant_84 rfl rfl ?_
        exact h1 j hj rfl 2 (by omega) rfl _ sm.load
      · refine pE_tableIn (off := 70) (tgt := 85) dX12_tenant_15 (by decide +kernel) (by decide +kernel) rfl (by decide) ?_
        refine pE_aload_n dX12_tenant_85 rfl rfl ?_
        refine pE_getR dX12_tenant_86 flX12_76 rfl (by first | assumption | rfl) (by first | assumption | rfl) ?_
        refine pE_iload_n dX12_tenant_89 rfl rfl ?_
        refine pE_ialoadN dX12_tenant_90 (by first | assumption | rfl) (by omega) (by omega) ?_
        rw [pz_ne _ _ (by decide : (88 : Nat) ≠ 91), c4]
        refine pE_iret dX12_tenant_91 rfl rfl ?_
        exact h1 j hj rfl 3 (by omega) rfl _ sm.load
      · refine pE_tableIn (off := 77) (tgt := 92) dX12_tenant_15 (by decide +kernel) (by decide +kernel) rfl (by decide) ?_
        refine pE_aload_n dX12_tenant_92 rfl rfl ?_
        refine pE_getR dX12_tenant_93 flX12_79 rfl (by first | assumption | rfl) (by first | assumption | rfl) ?_
        refine pE_iload_n dX12_tenant_96 rfl rfl ?_
        refine pE_ialoadN dX12_tenant_97 (by first | assumption | rfl) (by omega) (by omega) ?_
        rw [pz_ne _ _ (by decide : (89 : Nat) ≠ 91), c5]
        refine pE_iret dX12_tenant_98 rfl rfl ?_
        exact h1 j hj rfl 4 (by omega) rfl _ sm.load
      · refine pE_tableIn (off := 84) (tgt := 99) dX12_tenant_15 (by decide +kernel) (by decide +kernel) rfl (by decide) ?_
        refine pE_aload_n dX12_tenant_99 rfl rfl ?_
        refine pE_getR dX12_tenant_100 flX12_88 rfl (by first | assumption | rfl) (by first | assumption | rfl) ?_
        refine pE_iload_n dX12_tenant_103 rfl rfl ?_
        refine pE_ialoadN dX12_tenant_104 (by first | assumption | rfl) (by omega) (by omega) ?_
        rw [hS.load j (by omega)]
        refine pE_iret dX12_tenant_105 rfl rfl ?_
        exact h1 j hj rfl 5 (by omega) rfl _ sm.load
      · refine pE_tableIn (off := 91) (tgt := 106) dX12_tenant_15 (by decide +kernel) (by decide +kernel) rfl (by decide) ?_
        refine pE_aload_n dX12_tenant_106 rfl rfl ?_
        refine pE_getR dX12_tenant_107 flX12_88 rfl (by first | assumption | rfl) (by first | assumption | rfl) ?_
        refine pE_bipush (v := nI 8) dX12_tenant_110 rfl ?_
        refine pE_iload_n dX12_tenant_112 rfl rfl ?_
        refine pE_iaddN dX12_tenant_113 ?_
        refine pE_ialoadN dX12_tenant_114 (by first | assumption | rfl) (by omega) (by omega) ?_
        rw [hS.load (8 + j) (by omega)]
        refine pE_iret dX12_tenant_115 rfl rfl ?_
        exact h1 j hj rfl 6 (by omega) rfl _ sm.load
      · refine pE_tableIn (off := 101) (tgt := 116) dX12_tenant_15 (by decide +kernel) (by decide +kernel) rfl (by decide) ?_
        refine pE_aload_n dX12_tenant_116 rfl rfl ?_
        refine pE_getR dX12_tenant_117 flX12_88 rfl (by first | assumption | rfl) (by first | assumption | rfl) ?_
        refine pE_bipush (v := nI 16) dX12_tenant_120 rfl ?_
        refine pE_iload_n dX12_tenant_122 rfl rfl ?_
        refine pE_iaddN dX12_tenant_123 ?_
        refine pE_ialoadN dX12_tenant_124 (by first | assumption | rfl) (by omega) (by omega) ?_
        rw [hS.load (16 + j) (by omega)]
        refine pE_iret dX12_tenant_125 rfl rfl ?_
        exact h1 j hj rfl 7 (by omega) rfl _ sm.load
      · refine pE_tableIn (off := 111) (tgt := 126) dX12_tenant_15 (by decide +kernel) (by decide +kernel) rfl (by decide) ?_
        refine pE_aload_n dX12_tenant_126 rfl rfl ?_
        refine pE_iload_n dX12_tenant_127 rfl rfl ?_
        refine pE_callV (d' := 1) (as := [_]) dX12_tenant_128 lkX12_397 (cwX12_lackOf _ _) ivX12_lackOf ⟨_, rfl, rfl⟩ (by first | assumption | rfl) rfl rfl (Nat.le_of_ble_eq_true rfl) (by decide) pKK ?_
        refine M_X12_lackOf (H := H) (T := T) (by rw [pz_ne _ _ (by decide)]; exact c4) (hS.load (16 + j) (by omega)) (hS.load (8 + j) (by omega)) (by omega) hrj.2.2.2.1 hb2 hsj.2.1 ?_
        refine pE_iret dX12_tenant_131 rfl rfl ?_
        exact h1 j hj rfl 8 (by omega) rfl _ sm.load
    · have hno : ∀ k, k ≤ 8 → x ≠ nI k := fun k hk e => hsw ⟨k, hk, e⟩
      refine pE_tableOut (tgt := 132) dX12_tenant_15 (sw_out (n := 8) (by omega) hno) (by decide) ?_
      refine pE_iconst (v := -1) dX12_tenant_132 rfl ?_
      refine pE_iret dX12_tenant_133 rfl rfl ?_
      exact h0 (Or.inr hno) _ sm.load
  · refine pE_if_ne_f (tgt := 10) dX12_tenant_5 (by decide) nI_0 ?_
    refine pE_iconst (v := -1) dX12_tenant_8 rfl ?_
    refine pE_iret dX12_tenant_9 rfl rfl ?_
    exact h0 (Or.inl hno) I sm.rf
