set_option maxHeartbeats 4000000 in
set_option maxRecDepth 100000 in
theorem M_X12_goClimb_0 {l : Launch} {X : pX} {t g : Nat} {I : pHI} {J : pHJ} {Q : pQ} {j s cnt : Nat} {T : pN} (hT : mS 91 T I) (hj : j < 8) (b1 : T (8 + j) ≤ 9999) (b2 : cnt ≤ 999) (b3 : s ≤ 1000)  (b5 : brN s (0) ≤ T j) (hq : ∀ I1, sm I I1 → mS 91 (walkN T j s (0) cnt) I1 → Q none I1 J (pR t g)) : pM l X yX12_goClimb mX12_goClimb 1 [.ref 67, .int (nI j), .int (nI s), .int (-1), .int (nI cnt)] pK pK I J (pR t g) Q := by
  refine pM_of rfl (fun h => by cases h) rfl pKM (Nat.le_of_ble_eq_true rfl) ?_
  refine pE_aload_n dX12_goClimb_0 rfl rfl ?_
  refine pE_getR dX12_goClimb_1 flX12_88 rfl (by first | assumption | rfl) (by first | assumption | rfl) ?_
  refine pE_bipush (v := nI 8) dX12_goClimb_4 rfl ?_
  refine pE_iload_n dX12_goClimb_6 rfl rfl ?_
  refine pE_iaddN dX12_goClimb_7 ?_
  refine pE_aload_n dX12_goClimb_8 rfl rfl ?_
  refine pE_getR dX12_goClimb_9 flX12_88 rfl (by first | assumption | rfl) (by first | assumption | rfl) ?_
  refine pE_bipush (v := nI 8) dX12_goClimb_12 rfl ?_
  refine pE_iload_n dX12_goClimb_14 rfl rfl ?_
  refine pE_iaddN dX12_goClimb_15 ?_
  refine pE_ialoadN dX12_goClimb_16 (by first | assumption | rfl) (by first | assumption | omega) (by omega) ?_
  rw [hT (8 + j) (by omega)]
  refine pE_iload dX12_goClimb_17 rfl ?_
  refine pE_iaddN dX12_goClimb_19 ?_
  refine pE_sipush (v := nI 9999) dX12_goClimb_20 rfl ?_
  refine pE_callS (d' := 0) (as := [_, _]) dX12_goClimb_23 lkX12_379 (cwX12_within _ _) svX12_within rfl rfl (Nat.le_of_ble_eq_true rfl) (by decide) pKK ?_
  refine M_X12_within (by omega) ?_
  rw [clp_N (by omega), Nat.min_comm]
  refine pE_iastoreN dX12_goClimb_26 (by first | assumption | rfl) (by first | assumption | omega) (by omega) ?_
  refine pE_aload_n dX12_goClimb_27 rfl rfl ?_
  refine pE_getR dX12_goClimb_28 flX12_88 rfl (by first | assumption | rfl) (by first | assumption | rfl) ?_
  refine pE_iload_n dX12_goClimb_31 rfl rfl ?_
  refine pE_dup2 dX12_goClimb_32 ?_
  refine pE_ialoadN dX12_goClimb_33 (by first | assumption | rfl) (by first | assumption | omega) (by omega) ?_
  rw [hT.pu j (by omega)]
  refine pE_aload_n dX12_goClimb_34 rfl rfl ?_
  refine pE_iload_n dX12_goClimb_35 rfl rfl ?_
  refine pE_iload_n dX12_goClimb_36 rfl rfl ?_
  refine pE_callV (d' := 0) (as := [_, _]) dX12_goClimb_37 lkX12_385 (cwX12_breathFor _ _) ivX12_breathFor ⟨_, rfl, rfl⟩ (by first | assumption | rfl) rfl rfl (Nat.le_of_ble_eq_true rfl) (by decide) pKK ?_
  refine M_X12_breathFor_0 ?_
  refine pE_isub dX12_goClimb_40 ?_
  rw [nI_subN (by simp only [up1]; rw [if_neg (by omega)]; exact b5)]
  refine pE_iastoreN dX12_goClimb_41 (by first | assumption | rfl) (by first | assumption | omega) (by omega) ?_
  refine pE_aload_n dX12_goClimb_42 rfl rfl ?_
  refine pE_getR dX12_goClimb_43 flX12_88 rfl (by first | assumption | rfl) (by first | assumption | rfl) ?_
  refine pE_bipush (v := nI 24) dX12_goClimb_46 rfl ?_
  refine pE_dup2 dX12_goClimb_48 ?_
  refine pE_ialoadN dX12_goClimb_49 (by first | assumption | rfl) (by first | assumption | omega) (by omega) ?_
  rw [(hT.pu.pu) 24 (by omega)]
  refine pE_iload_n dX12_goClimb_50 rfl rfl ?_
  refine pE_iaddN dX12_goClimb_51 ?_
  refine pE_iastoreN dX12_goClimb_52 (by first | assumption | rfl) (by first | assumption | omega) (by omega) ?_
  refine pE_vret dX12_goClimb_53 rfl rfl ?_
  refine hq _ (sm.rf.pu.pu.pu) ((hT.pu.pu.pu).cg (fun k hk => ?_))
  simp only [walkN, up1]
  rw [if_neg (by omega : ¬ j = 8 + j), if_neg (by omega : ¬ 24 = j), if_neg (by omega : ¬ 24 = 8 + j)]
set_option maxHeartbeats 4000000 in
set_option maxRecDepth 100000 in
theorem M_X12_goClimb_c {l : Launch} {X : pX} {t g : Nat} {I : pHI} {J : pHJ} {Q : pQ} {j s i cnt : Nat} {H T : pN} (hT : mS 91 T I) (hj : j < 8) (b1 : T (8 + j) ≤ 9999) (b2 : cnt ≤ 999) (b3 : s ≤ 1000) (hi : i < 8) (e : I 87 i = nI (H (24 + i))) (b4 : H (24 + i) ≤ 9) (b5 : brN s (H (24 + i)) ≤ T j) (hq : ∀ I1, sm I I1 → mS 91 (walkN T j s (H (24 + i)) cnt) I1 → Q none I1 J (pR t g)) : pM l X yX12_goClimb mX12_goClimb 1 [.ref 67, .int (nI j), .int (nI s), .int (nI i), .int (nI cnt)] pK pK I J (pR t g) Q := by
  refine pM_of rfl (fun h => by cases h) rfl pKM (Nat.le_of_ble_eq_true rfl) ?_
  refine pE_aload_n dX12_goClimb_0 rfl rfl ?_
  refine pE_getR dX12_goClimb_1 flX12_88 rfl (by first | assumption | rfl) (by first | assumption | rfl) ?_
  refine pE_bipush (v := nI 8) dX12_goClimb_4 rfl ?_
  refine pE_iload_n dX12_goClimb_6 rfl rfl ?_
  refine pE_iaddN dX12_goClimb_7 ?_
  refine pE_aload_n dX12_goClimb_8 rfl rfl ?_
  refine pE_getR dX12_goClimb_9 flX12_88 rfl (by first | assumption | rfl) (by first | assumption | rfl) ?_
  refine pE_bipush (v := nI 8) dX12_goClimb_12 rfl ?_
  refine pE_iload_n dX12_goClimb_14 rfl rfl ?_
  refine pE_iaddN dX12_goClimb_15 ?_
  refine pE_ialoadN dX12_goClimb_16 (by first | assumption | rfl) (by first | assumption | omega) (by omega) ?_
  rw [hT (8 + j) (by omega)]
  refine pE_iload dX12_goClimb_17 rfl ?_
  refine pE_iaddN dX12_goClimb_19 ?_
  refine pE_sipush (v := nI 9999) dX12_goClimb_20 rfl ?_
  refine pE_callS (d' := 0) (as := [_, _]) dX12_goClimb_23 lkX12_379 (cwX12_within _ _) svX12_within rfl rfl (Nat.le_of_ble_eq_true rfl) (by decide) pKK ?_
  refine M_X12_within (by omega) ?_
  rw [clp_N (by omega), Nat.min_comm]
  refine pE_iastoreN dX12_goClimb_26 (by first | assumption | rfl) (by first | assumption | omega) (by omega) ?_
  refine pE_aload_n dX12_goClimb_27 rfl rfl ?_
  refine pE_getR dX12_goClimb_28 flX12_88 rfl (by first | assumption | rfl) (by first | assumption | rfl) ?_
  refine pE_iload_n dX12_goClimb_31 rfl rfl ?_
  refine pE_dup2 dX12_goClimb_32 ?_
  refine pE_ialoadN dX12_goClimb_33 (by first | assumption | rfl) (by first | assumption | omega) (by omega) ?_
  rw [hT.pu j (by omega)]
  refine pE_aload_n dX12_goClimb_34 rfl rfl ?_
  refine pE_iload_n dX12_goClimb_35 rfl rfl ?_
  refine pE_iload_n dX12_goClimb_36 rfl rfl ?_
  refine pE_callV (d' := 0) (as := [_, _]) dX12_goClimb_37 lkX12_385 (cwX12_breathFor _ _) ivX12_breathFor ⟨_, rfl, rfl⟩ (by first | assumption | rfl) rfl rfl (Nat.le_of_ble_eq_true rfl) (by decide) pKK ?_
  refine M_X12_breathFor_c hi (by rw [pu_ne _ _ _ (by decide)]; exact e) b4 ?_
  refine pE_isub dX12_goClimb_40 ?_
  rw [nI_subN (by simp only [up1]; rw [if_neg (by omega)]; exact b5)]
  refine pE_iastoreN dX12_goClimb_41 (by first | assumption | rfl) (by first | assumption | omega) (by omega) ?_
  refine pE_aload_n dX12_goClimb_42 rfl rfl ?_
  refine pE_getR dX12_goClimb_43 flX12_88 rfl (by first | assumption | rfl) (by first | assumption | rfl) ?_
  refine pE_bipush (v := nI 24) dX12_goClimb_46 rfl ?_
  refine pE_dup2 dX12_goClimb_48 ?_
  refine pE_ialoadN dX12_goClimb_49 (by first | assumption | rfl) (by first | assumption | omega) (by omega) ?_
  rw [(hT.pu.pu) 24 (by omega)]
  refine pE_iload_n dX12_goClimb_50 rfl rfl ?_
  refine pE_iaddN dX12_goClimb_51 ?_
  refine pE_iastoreN dX12_goClimb_52 (by first | assumption | rfl) (by first | assumption | omega) (by omega) ?_
  refine pE_vret dX12_goClimb_53 rfl rfl ?_
  refine hq _ (sm.rf.pu.pu.pu) ((hT.pu.pu.pu).cg (fun k hk => ?_))
  simp only [walkN, up1]
  rw [if_neg (by omega : ¬ j = 8 + j), if_neg (by omega : ¬ 24 = j), if_neg (by omega : ¬ 24 = 8 + j)]
set_option maxHeartbeats 4000000 in
set_option maxRecDepth 100000 in
theorem L_X12_goWeek {l : Launch} {X : pX} {t g : Nat} {I : pHI} {J : pHJ} {Q : pQ} {H T : pN} {due : Bool} (hr : rH H) (hp : ∀ j, j ≤ H 1 → ∀ i, i < 8 → wkJ H due T j (8 + i) ≤ 9999 ∧ wkJ H due T j (16 + i) ≤ 100000000) (hwk : due = (T 26 % 4 == 0)) (hb : T 26 ≤ 100000) (hq : ∀ I1, sm I I1 → mS 91 (wkJ H due T (H 1)) I1 → Q none I1 J (pR t g)) : ∀ (n j : Nat) (I1 : pHI) (v2 : Option Value), H 1 - j < n → j ≤ H 1 → sm I I1 → mH H I1 → mS 91 (wkJ H due T j) I1 → pE l X mX12_goWeek 4 pK 47 [some (.ref 67), some (.int (nI j)), v2] [] pK I1 J (pR t g) Q := by
  intro n
  induction n with
  | zero => intro j I1 v2 hn hj; exact absurd hn (Nat.not_lt_zero _)
  | succ n ih =>
    intro j I1 v2 hn hj hx hH hT
    have hn8 := hr.2.1
    refine pE_iload_n dX12_goWeek_47 rfl rfl ?_
    refine pE_aload_n dX12_goWeek_48 rfl rfl ?_
    refine pE_getI dX12_goWeek_49 flX12_350 rfl (Or.inl rfl) (by first | assumption | rfl) ?_
    rw [hH.2.1]
    refine pE_icmp_ge (tgt := 175) dX12_goWeek_52 (by decide) (fun h52 => ?_) (fun h52 => ?_)
    · have g52 := nq_le (by omega) (by omega) h52
      refine pE_vret dX12_goWeek_175 rfl rfl ?_
      obtain rfl : j = H 1 := by omega
      exact hq _ hx hT
    · have g52 := nq_nle (by omega) (by omega) h52
      refine pE_aload_n dX12_goWeek_55 rfl rfl ?_
      refine pE_getR dX12_goWeek_56 flX12_88 rfl (by first | assumption | rfl) (by first | assumption | rfl) ?_
      refine pE_iload_n dX12_goWeek_59 rfl rfl ?_
      refine pE_aload_n dX12_goWeek_60 rfl rfl ?_
      refine pE_getR dX12_goWeek_61 flX12_70 rfl (by first | assumption | rfl) (by first | assumption | rfl) ?_
      refine pE_iload_n dX12_goWeek_64 rfl rfl ?_
      refine pE_ialoadN dX12_goWeek_65 (by first | assumption | rfl) (by first | assumption | omega) (by omega) ?_
      rw [(hH.2.2.2 j (by omega)).2.1]
      refine pE_iastoreN dX12_goWeek_66 (by first | assumption | rfl) (by first | assumption | omega) (by omega) ?_
      have hT2 := hT.pu (k := j) (v := H (16 + j))
      have hx2 : sm I (pu I1 91 j (nI (H (16 + j)))) := hx.pu
      have hH2 : mH H (pu I1 91 j (nI (H (16 + j)))) := hH.off (fun c k a => by rw [pu_ne _ _ _ (by omega)])
      have hp1 := hp j hj j (by omega)
      have ho := (hr.2.2.2.2 j (by omega)).2.2.2.1
      have hw26 : up1 (wkJ H due T j) j (H (16 + j)) 26 = T 26 := by
        simp only [up1]
        rw [if_neg (by omega)]
        exact (wk_at H due T j (by omega)).2.2.2 26 (by omega)
      have e8 : up1 (wkJ H due T j) j (H (16 + j)) (8 + j) = wkJ H due T j (8 + j) := by simp only [up1]; rw [if_neg (by omega)]
      have e16 : up1 (wkJ H due T j) j (H (16 + j)) (16 + j) = wkJ H due T j (16 + j) := by simp only [up1]; rw [if_neg (by omega)]
      refine pE_aload_n dX12_goWeek_67 rfl rfl ?_
      refine pE_getR dX12_goWeek_68 flX12_88 rfl (by first | assumption | rfl) (by first | assumption | rfl) ?_
      refine pE_bipush (v := nI 26) dX12_goWeek_71 rfl ?_
      refine pE_ialoadN dX12_goWeek_73 (by first | assumption | rfl) (by first | assumption | omega) (by omega) ?_
      rw [hT2 26 (by omega), hw26]
      refine pE_iconst (v := nI 4) dX12_goWeek_74 rfl ?_
      refine pE_iremN dX12_goWeek_75 (by omega) (by omega) (by omega) ?_
      refine pE_if_le (tgt := 82) dX12_goWeek_76 (by decide) (fun h76 => ?_) (fun h76 => ?_)
      · have g76 := nq_le0 (by omega) h76
        have hdue : due = true := by rw [hwk]; simp; omega
        refine pE_aload_n dX12_goWeek_82 rfl rfl ?_
        refine pE_getR dX12_goWeek_83 flX12_88 rfl (by first | assumption | rfl) (by first | assumption | rfl) ?_
        refine pE_bipush (v := nI 16) dX12_goWeek_86 rfl ?_
        refine pE_iload_n dX12_goWeek_88 rfl rfl ?_
        refine pE_iaddN dX12_goWeek_89 ?_
        refine pE_dup2 dX12_goWeek_90 ?_
        refine pE_ialoadN dX12_goWeek_91 (by first | assumption | rfl) (by first | assumption | omega) (by omega) ?_
        rw [hT2 (16 + j) (by omega), e16]
        refine pE_aload_n dX12_goWeek_92 rfl rfl ?_
        refine pE_getR dX12_goWeek_93 flX12_76 rfl (by first | assumption | rfl) (by first | assumption | rfl) ?_
        refine pE_iload_n dX12_goWeek_96 rfl rfl ?_
        refine pE_ialoadN dX12_goWeek_97 (by first | assumption | rfl) (by first | assumption | omega) (by omega) ?_
        rw [(hH2.2.2.2 j (by omega)).2.2.2.1]
        refine pE_iaddN dX12_goWeek_98 ?_
        refine pE_iastoreN dX12_goWeek_99 (by first | assumption | rfl) (by first | assumption | omega) (by omega) ?_
        have hT3 := hT2.pu (k := 16 + j) (v := (wkJ H due T j (16 + j) + H (32 + j)))
        have hx3 := hx2.pu (k := 16 + j) (x := nI (wkJ H due T j (16 + j) + H (32 + j)))
        have hH3 : mH H (pu (pu I1 91 j (nI (H (16 + j)))) 91 (16 + j) (nI (wkJ H due T j (16 + j) + H (32 + j)))) := hH2.off (fun c k a => by rw [pu_ne _ _ _ (by omega)])
        have e8b : up1 (up1 (wkJ H due T j) j (H (16 + j))) (16 + j) (wkJ H due T j (16 + j) + H (32 + j)) (8 + j) = wkJ H due T j (8 + j) := by simp only [up1]; rw [if_neg (by omega), if_neg (by omega)]
        have e16b : up1 (up1 (wkJ H due T j) j (H (16 + j))) (16 + j) (wkJ H due T j (16 + j) + H (32 + j)) (16 + j) = (wkJ H due T j (16 + j) + H (32 + j)) := by simp only [up1]; simp
        refine pE_aload_n dX12_goWeek_100 rfl rfl ?_
        refine pE_getR dX12_goWeek_101 flX12_88 rfl (by first | assumption | rfl) (by first | assumption | rfl) ?_
        refine pE_bipush (v := nI 8) dX12_goWeek_104 rfl ?_
        refine pE_iload_n dX12_goWeek_106 rfl rfl ?_
        refine pE_iaddN dX12_goWeek_107 ?_
        refine pE_ialoadN dX12_goWeek_108 (by first | assumption | rfl) (by first | assumption | omega) (by omega) ?_
        rw [hT3 (8 + j) (by omega), e8b]
        refine pE_aload_n dX12_goWeek_109 rfl rfl ?_
        refine pE_getR dX12_goWeek_110 flX12_88 rfl (by first | assumption | rfl) (by first | assumption | rfl) ?_
        refine pE_bipush (v := nI 16) dX12_goWeek_113 rfl ?_
        refine pE_iload_n dX12_goWeek_115 rfl rfl ?_
        refine pE_iaddN dX12_goWeek_116 ?_
        refine pE_ialoadN dX12_goWeek_117 (by first | assumption | rfl) (by first | assumption | omega) (by omega) ?_
        rw [hT3 (16 + j) (by omega), e16b]
        refine pE_icmp_ge (tgt := 133) dX12_goWeek_118 (by decide) (fun h118 => ?_) (fun h118 => ?_)
        · have g118 := nq_le (by omega) (by omega) h118
          refine pE_aload_n dX12_goWeek_133 rfl rfl ?_
          refine pE_getR dX12_goWeek_134 flX12_88 rfl (by first | assumption | rfl) (by first | assumption | rfl) ?_
          refine pE_bipush (v := nI 16) dX12_goWeek_137 rfl ?_
          refine pE_iload_n dX12_goWeek_139 rfl rfl ?_
          refine pE_iaddN dX12_goWeek_140 ?_
          refine pE_ialoadN dX12_goWeek_141 (by first | assumption | rfl) (by first | assumption | omega) (by omega) ?_
          rw [hT3 (16 + j) (by omega), e16b]
          refine pE_istore_n (lc' := [_, _, some (.int _)]) dX12_goWeek_142 rfl (Nat.le_of_ble_eq_true rfl) rfl rfl ?_
          refine pE_aload_n dX12_goWeek_143 rfl rfl ?_
          refine pE_getR dX12_goWeek_144 flX12_88 rfl (by first | assumption | rfl) (by first | assumption | rfl) ?_
          refine pE_bipush (v := nI 8) dX12_goWeek_147 rfl ?_
          refine pE_iload_n dX12_goWeek_149 rfl rfl ?_
          refine pE_iaddN dX12_goWeek_150 ?_
          refine pE_dup2 dX12_goWeek_151 ?_
          refine pE_ialoadN dX12_goWeek_152 (by first | assumption | rfl) (by first | assumption | omega) (by omega) ?_
          rw [hT3 (8 + j) (by omega), e8b]
          refine pE_iload_n dX12_goWeek_153 rfl rfl ?_
          refine pE_isubN dX12_goWeek_154 (by omega) ?_
          refine pE_iastoreN dX12_goWeek_155 (by first | assumption | rfl) (by first | assumption | omega) (by omega) ?_
          refine pE_aload_n dX12_goWeek_156 rfl rfl ?_
          refine pE_getR dX12_goWeek_157 flX12_88 rfl (by first | assumption | rfl) (by first | assumption | rfl) ?_
          refine pE_bipush (v := nI 16) dX12_goWeek_160 rfl ?_
          refine pE_iload_n dX12_goWeek_162 rfl rfl ?_
          refine pE_iaddN dX12_goWeek_163 ?_
          refine pE_dup2 dX12_goWeek_164 ?_
          refine pE_ialoadN dX12_goWeek_165 (by first | assumption | rfl) (by first | assumption | omega) (by omega) ?_
          rw [(hT3.pu (k := 8 + j) (v := _)) (16 + j) (by omega), (by simp only [up1]; rw [if_neg (by omega)]; simp : up1 (up1 (up1 (wkJ H due T j) j (H (16 + j))) (16 + j) (wkJ H due T j (16 + j) + H (32 + j))) (8 + j) _ (16 + j) = (wkJ H due T j (16 + j) + H (32 + j)))]
          refine pE_iload_n dX12_goWeek_166 rfl rfl ?_
          refine pE_isubN dX12_goWeek_167 (by omega) ?_
          refine pE_iastoreN dX12_goWeek_168 (by first | assumption | rfl) (by first | assumption | omega) (by omega) ?_
          refine pE_iincN (c0 := 1) (lc' := [_, some (.int _), _]) dX12_goWeek_169 rfl rfl rfl rfl ?_
          refine pE_goto (tgt := 47) dX12_goWeek_172 (by decide) ?_
          refine ih (j + 1) _ _ (by omega) (by omega) hx3.pu.pu (hH3.off (fun c k a => by rw [pu_ne _ _ _ (by omega), pu_ne _ _ _ (by omega)])) ((hT3.pu.pu).cg (fun k hk => ?_))
          simp only [wkJ, hdue, if_true, payN, up1]
          have e1 : ¬ 16 + j = j := by omega
          have e2 : ¬ 8 + j = j := by omega
          have e3 : ¬ 16 + j = 8 + j := by omega
          rw [if_neg e1, if_neg e2]
          rw [hdue] at g118 e8b e16b
          by_cases k1 : k = 16 + j
          · subst k1
            simp only [if_true, if_neg e3]
            omega
          · by_cases k2 : k = 8 + j
            · subst k2
              simp only [if_true, if_neg k1, if_neg e2]
              omega
            · simp only [if_neg k1, if_neg k2]
        · have g118 := nq_nle (by omega) (by omega) h118
          refine pE_aload_n dX12_goWeek_121 rfl rfl ?_
          refine pE_getR dX12_goWeek_122 flX12_88 rfl (by first | assumption | rfl) (by first | assumption | rfl) ?_
          refine pE_bipush (v := nI 8) dX12_goWeek_125 rfl ?_
          refine pE_iload_n dX12_goWeek_127 rfl rfl ?_
          refine pE_iaddN dX12_goWeek_128 ?_
          refine pE_ialoadN dX12_goWeek_129 (by first | assumption | rfl) (by first | assumption | omega) (by omega) ?_
          rw [hT3 (8 + j) (by omega), e8b]
          refine pE_goto (tgt := 142) dX12_goWeek_130 (by decide) ?_
          refine pE_istore_n (lc' := [_, _, some (.int _)]) dX12_goWeek_142 rfl (Nat.le_of_ble_eq_true rfl) rfl rfl ?_
          refine pE_aload_n dX12_goWeek_143 rfl rfl ?_
          refine pE_getR dX12_goWeek_144 flX12_88 rfl (by first | assumption | rfl) (by first | assumption | rfl) ?_
          refine pE_bipush (v := nI 8) dX12_goWeek_147 rfl ?_
          refine pE_iload_n dX12_goWeek_149 rfl rfl ?_
          refine pE_iaddN dX12_goWeek_150 ?_
          refine pE_dup2 dX12_goWeek_151 ?_
          refine pE_ialoadN dX12_goWeek_152 (by first | assumption | rfl) (by first | assumption | omega) (by omega) ?_
          rw [hT3 (8 + j) (by omega), e8b]
          refine pE_iload_n dX12_goWeek_153 rfl rfl ?_
          refine pE_isubN dX12_goWeek_154 (by omega) ?_
          refine pE_iastoreN dX12_goWeek_155 (by first | assumption | rfl) (by first | assumption | omega) (by omega) ?_
          refine pE_aload_n dX12_goWeek_156 rfl rfl ?_
          refine pE_getR dX12_goWeek_157 flX12_88 rfl (by first | assumption | rfl) (by first | assumption | rfl) ?_
          refine pE_bipush (v := nI 16) dX12_goWeek_160 rfl ?_
          refine pE_iload_n dX12_goWeek_162 rfl rfl ?_
          refine pE_iaddN dX12_goWeek_163 ?_
          refine pE_dup2 dX12_goWeek_164 ?_
          refine pE_ialoadN dX12_goWeek_165 (by first | assumption | rfl) (by first | assumption | omega) (by omega) ?_
          rw [(hT3.pu (k := 8 + j) (v := _)) (16 + j) (by omega), (by simp only [up1]; rw [if_neg (by omega)]; simp : up1 (up1 (up1 (wkJ H due T j) j (H (16 + j))) (16 + j) (wkJ H due T j (16 + j) + H (32 + j))) (8 + j) _ (16 + j) = (wkJ H due T j (16 + j) + H (32 + j)))]
          refine pE_iload_n dX12_goWeek_166 rfl rfl ?_
          refine pE_isubN dX12_goWeek_167 (by omega) ?_
          refine pE_iastoreN dX12_goWeek_168 (by first | assumption | rfl) (by first | assumption | omega) (by omega) ?_
          refine pE_iincN (c0 := 1) (lc' := [_, some (.int _), _]) dX12_goWeek_169 rfl rfl rfl rfl ?_
          refine pE_goto (tgt := 47) dX12_goWeek_172 (by decide) ?_
          refine ih (j + 1) _ _ (by omega) (by omega) hx3.pu.pu (hH3.off (fun c k a => by rw [pu_ne _ _ _ (by omega), pu_ne _ _ _ (by omega)])) ((hT3.pu.pu).cg (fun k hk => ?_))
          simp only [wkJ, hdue, if_true, payN, up1]
          have e1 : ¬ 16 + j = j := by omega
          have e2 : ¬ 8 + j = j := by omega
          have e3 : ¬ 16 + j = 8 + j := by omega
          rw [if_neg e1, if_neg e2]
          rw [hdue] at g118 e8b e16b
          by_cases k1 : k = 16 + j
          · subst k1
            simp only [if_true, if_neg e3]
            omega
          · by_cases k2 : k = 8 + j
            · subst k2
              simp only [if_true, if_neg k1, if_neg e2]
              omega
            · simp only [if_neg k1, if_neg k2]
      · have g76 := nq_nle0 (by omega) h76
        have hdue : due = false := by rw [hwk]; simp; omega
        refine pE_goto (tgt := 169) dX12_goWeek_79 (by decide) ?_
        refine pE_iincN (c0 := 1) (lc' := [_, some (.int _), _]) dX12_goWeek_169 rfl rfl rfl rfl ?_
        refine pE_goto (tgt := 47) dX12_goWeek_172 (by decide) ?_
        exact ih (j + 1) _ _ (by omega) (by omega) hx2 hH2 (by simp only [wkJ, hdue, Bool.false_eq_true, if_false] at hT2 ⊢; exact hT2)
set_option maxHeartbeats 4000000 in
set_option maxRecDepth 100000 in
theorem M_X12_goWeek {l : Launch} {X : pX} {t g : Nat} {I : pHI} {J : pHJ} {Q : pQ} {B : Nat} {H T : pN} {p pc : pP} (hH : mH H I) (hr : rH H) (hT : mS 91 T I) (hF : mF 1 p I) (hw : p = [] ∨ wfp p 0) (hpc : fR 1 p pc) (hrT : rS B H T) (hq : ∀ I1, sm I I1 → mS 91 (weekN pc H T) I1 → Q none I1 J (pR t g)) : pM l X yX12_goWeek mX12_goWeek 4 [.ref 67] pK pK I J (pR t g) Q := by
  have hb2 := hrT.2.1
  have hb4 := hrT.2.2.2.1
  have hn20 := hr.1.2
  refine pM_of rfl (fun h => by cases h) rfl pKM (Nat.le_of_ble_eq_true rfl) ?_
  refine pE_aload_n dX12_goWeek_0 rfl rfl ?_
  refine pE_getR dX12_goWeek_1 flX12_88 rfl (by first | assumption | rfl) (by first | assumption | rfl) ?_
  refine pE_bipush (v := nI 25) dX12_goWeek_4 rfl ?_
  refine pE_aload_n dX12_goWeek_6 rfl rfl ?_
  refine pE_getR dX12_goWeek_7 flX12_88 rfl (by first | assumption | rfl) (by first | assumption | rfl) ?_
  refine pE_bipush (v := nI 25) dX12_goWeek_10 rfl ?_
  refine pE_ialoadN dX12_goWeek_12 (by first | assumption | rfl) (by first | assumption | omega) (by omega) ?_
  rw [hT 25 (by omega)]
  refine pE_aload_n dX12_goWeek_13 rfl rfl ?_
  refine pE_callV (d' := 3) (as := []) dX12_goWeek_14 lkX12_391 (cwX12_pullHere _ _) ivX12_pullHere ⟨_, rfl, rfl⟩ (by first | assumption | rfl) rfl rfl (Nat.le_of_ble_eq_true rfl) (by decide) pKK ?_
  refine M_X12_pullHere hH hr hF hw hT (fun I1 hb => ?_)
  rw [fr_pull hpc]
  refine pE_iadd dX12_goWeek_17 ?_
  refine pE_aload_n dX12_goWeek_18 rfl rfl ?_
  refine pE_getI dX12_goWeek_19 flX12_82 rfl (Or.inl rfl) (by first | assumption | rfl) ?_
  rw [(hH.sm hb.sm).1]
  refine pE_callS (d' := 0) (as := [_, _]) dX12_goWeek_22 lkX12_379 (cwX12_within _ _) svX12_within rfl rfl (Nat.le_of_ble_eq_true rfl) (by decide) pKK ?_
  refine M_X12_within (by omega) ?_
  have hT1 : mS 91 (up1 T 25 (liftN pc H T (T 24))) (pu I1 91 25 (nI (clp (nI (T 25) + pullV pc H T (T 24)) (H 0)))) := (hT.sb (Or.inr rfl) hb).pu
  have hT9 := (hT1.pu (k := 24) (v := 0)).pu (k := 26) (v := T 26 + 1)
  have hx9 := ((hb.sm.pu (k := 25) (x := nI (clp (nI (T 25) + pullV pc H T (T 24)) (H 0)))).pu (k := 24) (x := nI 0)).pu (k := 26) (x := nI (T 26 + 1))
  refine pE_iastoreN dX12_goWeek_25 (by first | assumption | rfl) (by first | assumption | omega) (by omega) ?_
  refine pE_aload_n dX12_goWeek_26 rfl rfl ?_
  refine pE_getR dX12_goWeek_27 flX12_88 rfl (by first | assumption | rfl) (by first | assumption | rfl) ?_
  refine pE_bipush (v := nI 24) dX12_goWeek_30 rfl ?_
  refine pE_iconst (v := nI 0) dX12_goWeek_32 rfl ?_
  refine pE_iastoreN dX12_goWeek_33 (by first | assumption | rfl) (by first | assumption | omega) (by omega) ?_
  refine pE_aload_n dX12_goWeek_34 rfl rfl ?_
  refine pE_getR dX12_goWeek_35 flX12_88 rfl (by first | assumption | rfl) (by first | assumption | rfl) ?_
  refine pE_bipush (v := nI 26) dX12_goWeek_38 rfl ?_
  refine pE_dup2 dX12_goWeek_40 ?_
  refine pE_ialoadN dX12_goWeek_41 (by first | assumption | rfl) (by first | assumption | omega) (by omega) ?_
  rw [(hT1.pu (k := 24) (v := 0)) 26 (by omega), show up1 (up1 T 25 (liftN pc H T (T 24))) 24 0 26 = T 26 from rfl]
  refine pE_iconst (v := nI 1) dX12_goWeek_42 rfl ?_
  refine pE_iaddN dX12_goWeek_43 ?_
  refine pE_iastoreN dX12_goWeek_44 (by first | assumption | rfl) (by first | assumption | omega) (by omega) ?_
  refine pE_iconst (v := nI 0) dX12_goWeek_45 rfl ?_
  refine pE_istore_n (lc' := [_, some (.int _), _]) dX12_goWeek_46 rfl (Nat.le_of_ble_eq_true rfl) rfl rfl ?_
  have hn8 := hr.2.1
  refine L_X12_goWeek (due := ((T 26 + 1) % 4 == 0)) hr (fun j hj i hi => ?_) rfl (by show T 26 + 1 ≤ 100000; omega) (fun I2 h1 h2 => hq I2 (hx9.tr h1) h2) (H 1 + 1) 0 _ _ (by omega) (by omega) sm.rf (hH.sm hx9) hT9
  have h9 := wk_at H ((T 26 + 1) % 4 == 0) (up1 (up1 (up1 T 25 (liftN pc H T (T 24))) 24 0) 26 (T 26 + 1)) j (by omega)
  have h10 := h9.2.1 i hi
  have h11 := h9.2.2.1 i hi
  have h12 : up1 (up1 (up1 T 25 (liftN pc H T (T 24))) 24 0) 26 (T 26 + 1) (8 + i) = T (8 + i) := by simp only [up1]; rw [if_neg (by omega), if_neg (by omega), if_neg (by omega)]
  have h13 : up1 (up1 (up1 T 25 (liftN pc H T (T 24))) 24 0) 26 (T 26 + 1) (16 + i) = T (16 + i) := by simp only [up1]; rw [if_neg (by omega), if_neg (by omega), if_neg (by omega)]
  rw [h12, h13] at h10 h11
  have h14 := hrT.2.2.2.2 i hi
  have h15 := (hr.2.2.2.2 i hi).2.2.2.1
  rw [h10, h11]
  constructor
  · split <;> omega
  · split <;> omega
