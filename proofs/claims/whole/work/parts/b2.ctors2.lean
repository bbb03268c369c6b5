set_option maxHeartbeats 400000 in
set_option maxRecDepth 100000 in
theorem M_X10_init_4 {l : Launch} {X : pX} {I : pHI} {R : pHR} {Q : pQ} (hz : ∀ c, 4 ≤ c → I c = fun _ => 0) (hr : ∀ c, 4 ≤ c → R c = fun _ => none) (hq : Q none I jz (pu R 4 0 (some 1))) : pM l X yX10_init mX10_init 1 [.ref 4, .ref 1] (pK.take 5) (pK.take 5) I jz R Q := by
  refine pM_of rfl (fun _ => rfl) rfl (pT3 (by decide) (by decide)) (Nat.le_of_ble_eq_true rfl) ?_
  refine pE_aload_n dX10_init_0 rfl rfl ?_
  refine pE_objInit dX10_init_1 lkX10_3 lkObj.1 lkObj.2 (by decide) (Nat.le_of_ble_eq_true rfl) ?_
  refine pE_aload_n dX10_init_4 rfl rfl ?_
  refine pE_iconst (v := nI 0) dX10_init_5 rfl ?_
  refine pE_putI dX10_init_6 flX10_9 ftX10 fiX10_1 rfl rfl (by first | assumption | rfl) ?_
  rw [pu_z (by exact (congrFun (hz _ (by decide)) _).trans nI_0.symm)]
  refine pE_aload_n dX10_init_9 rfl rfl ?_
  refine pE_iconst (v := nI 0) dX10_init_10 rfl ?_
  refine pE_putI dX10_init_11 flX10_15 ftX10 fiX10_2 rfl rfl (by first | assumption | rfl) ?_
  rw [pu_z (by exact (congrFun (hz _ (by decide)) _).trans nI_0.symm)]
  refine pE_aload_n dX10_init_14 rfl rfl ?_
  refine pE_iconst (v := nI 0) dX10_init_15 rfl ?_
  refine pE_putI dX10_init_16 flX10_18 ftX10 fiX10_3 rfl rfl (by first | assumption | rfl) ?_
  rw [pu_z (by exact (congrFun (hz _ (by decide)) _).trans nI_0.symm)]
  refine pE_aload_n dX10_init_19 rfl rfl ?_
  refine pE_iconst (v := nI 0) dX10_init_20 rfl ?_
  refine pE_putI dX10_init_21 flX10_21 ftX10 fiX10_4 rfl rfl (by first | assumption | rfl) ?_
  rw [pu_z (by exact (congrFun (hz _ (by decide)) _).trans nI_0.symm)]
  refine pE_aload_n dX10_init_24 rfl rfl ?_
  refine pE_iconst (v := nI 0) dX10_init_25 rfl ?_
  refine pE_putI dX10_init_26 flX10_24 ftX10 fiX10_5 rfl rfl (by first | assumption | rfl) ?_
  rw [pu_z (by exact (congrFun (hz _ (by decide)) _).trans nI_0.symm)]
  refine pE_aload_n dX10_init_29 rfl rfl ?_
  refine pE_iconst (v := nI 0) dX10_init_30 rfl ?_
  refine pE_putI dX10_init_31 flX10_27 ftX10 fiX10_6 rfl rfl (by first | assumption | rfl) ?_
  rw [pu_z (by exact (congrFun (hz _ (by decide)) _).trans nI_0.symm)]
  refine pE_aload_n dX10_init_34 rfl rfl ?_
  refine pE_lconst (v := 0) dX10_init_35 rfl ?_
  refine pE_putJ dX10_init_36 flX10_30 ftX10 fiX10_7 rfl rfl (by first | assumption | rfl) ?_
  rw [pu_jz]
  refine pE_aload_n dX10_init_39 rfl rfl ?_
  refine pE_aload_n dX10_init_40 rfl rfl ?_
  refine pE_putRF dX10_init_41 flX10_34 ftX10 fiX10_0 ⟨rfl, _, rfl, rfl, pT1_1 42 rfl rfl⟩ (pRt_a _) rfl (by first | assumption | rfl) ?_
  refine pE_vret dX10_init_44 rfl rfl ?_
  exact hq
set_option maxHeartbeats 400000 in
set_option maxRecDepth 100000 in
theorem M_X8_init_2 {l : Launch} {X : pX} {I : pHI} {R : pHR} {Q : pQ} (hz : ∀ c, 2 ≤ c → I c = fun _ => 0) (hr : ∀ c, 2 ≤ c → R c = fun _ => none) (hq : Q none (pu I 2 7 (-1)) jz (pu (pu (pu R 2 1 (some 3)) 4 0 (some 1)) 2 0 (some 4))) : pM l X yX8_init mX8_init 2 [.ref 2, .ref 1] (pK.take 3) (pK.take 5) I jz R Q := by
  refine pM_of rfl (fun _ => rfl) rfl (pT3 (by decide) (by decide)) (Nat.le_of_ble_eq_true rfl) ?_
  refine pE_aload_n dX8_init_0 rfl rfl ?_
  refine pE_objInit dX8_init_1 lkX8_3 lkObj.1 lkObj.2 (by decide) (Nat.le_of_ble_eq_true rfl) ?_
  refine pE_aload_n dX8_init_4 rfl rfl ?_
  refine pE_bipush (v := nI 8) dX8_init_5 rfl ?_
  refine pE_newLT (m := 3) dX8_init_7 ka_long rfl (by decide) (by decide) (by decide) (by rfl) ?_
  refine pE_putRF dX8_init_9 flX8_9 ftX8 fiX8_1 ⟨rfl, _, rfl, rfl, pT1_1 75 rfl rfl⟩ (pRt_a _) rfl (by first | assumption | rfl) ?_
  refine pE_aload_n dX8_init_12 rfl rfl ?_
  refine pE_iconst (v := nI 0) dX8_init_13 rfl ?_
  refine pE_putI dX8_init_14 flX8_15 ftX8 fiX8_2 rfl rfl (by first | assumption | rfl) ?_
  rw [pu_z (by exact (congrFun (hz _ (by decide)) _).trans nI_0.symm)]
  refine pE_aload_n dX8_init_17 rfl rfl ?_
  refine pE_iconst (v := nI 0) dX8_init_18 rfl ?_
  refine pE_putB dX8_init_19 flX8_19 ftX8 fiX8_3 rfl rfl (by first | assumption | rfl) (by first | exact Or.inl nI_0 | exact Or.inr nI_1' | assumption) ?_
  rw [pu_z (by exact (congrFun (hz _ (by decide)) _).trans nI_0.symm)]
  refine pE_aload_n dX8_init_22 rfl rfl ?_
  refine pE_iconst (v := nI 0) dX8_init_23 rfl ?_
  refine pE_putB dX8_init_24 flX8_23 ftX8 fiX8_4 rfl rfl (by first | assumption | rfl) (by first | exact Or.inl nI_0 | exact Or.inr nI_1' | assumption) ?_
  rw [pu_z (by exact (congrFun (hz _ (by decide)) _).trans nI_0.symm)]
  refine pE_aload_n dX8_init_27 rfl rfl ?_
  refine pE_iconst (v := nI 0) dX8_init_28 rfl ?_
  refine pE_putB dX8_init_29 flX8_26 ftX8 fiX8_5 rfl rfl (by first | assumption | rfl) (by first | exact Or.inl nI_0 | exact Or.inr nI_1' | assumption) ?_
  rw [pu_z (by exact (congrFun (hz _ (by decide)) _).trans nI_0.symm)]
  refine pE_aload_n dX8_init_32 rfl rfl ?_
  refine pE_iconst (v := nI 0) dX8_init_33 rfl ?_
  refine pE_putI dX8_init_34 flX8_29 ftX8 fiX8_6 rfl rfl (by first | assumption | rfl) ?_
  rw [pu_z (by exact (congrFun (hz _ (by decide)) _).trans nI_0.symm)]
  refine pE_aload_n dX8_init_37 rfl rfl ?_
  refine pE_iconst (v := -1) dX8_init_38 rfl ?_
  refine pE_putI dX8_init_39 flX8_32 ftX8 fiX8_7 rfl rfl (by first | assumption | rfl) ?_
  refine pE_aload_n dX8_init_42 rfl rfl ?_
  refine pE_newT (m := 4) dX8_init_43 ftX10 nwX8_35 rfl (by decide) (by decide) (by exact hz _ (by decide)) (by rfl) (by exact hr _ (by decide)) ?_
  refine pE_dupR dX8_init_46 ?_
  refine pE_aload_n dX8_init_47 rfl rfl ?_
  refine pE_callI (d' := 1) (as := [_]) dX8_init_48 lkX8_37 (cwX10_init _ _) ivX10_init rfl rfl rfl rfl (Nat.le_of_ble_eq_true rfl) (by decide) (pT5 (b := 5) (by decide) (by decide) (by decide)) ?_
  refine M_X10_init_4 (fun c hc => by rw [pu_ne _ _ _ (by omega)]; exact hz c (by omega)) (fun c hc => by rw [pu_ne _ _ _ (by omega)]; exact hr c (by omega)) ?_
  refine pE_putRF dX8_init_51 flX8_40 ftX8 fiX8_0 ⟨rfl, _, rfl, rfl, pT1_1 74 rfl rfl⟩ (pRt_o _) rfl (by first | assumption | rfl) ?_
  refine pE_vret dX8_init_54 rfl rfl ?_
  exact hq
set_option maxHeartbeats 400000 in
set_option maxRecDepth 100000 in
theorem M_X2_init_5 {l : Launch} {X : pX} {I : pHI} {R : pHR} {Q : pQ} (hz : ∀ c, 5 ≤ c → I c = fun _ => 0) (hr : ∀ c, 5 ≤ c → R c = fun _ => none) (hq : ∀ I1, sHo 5 I I1 → cH 5 H9 I1 → cF 11 (dfl 0) I1 → cF 15 (dfl 1) I1 → Q none I1 jz (pu (pu (pu (pu (pu (pu (pu (pu (pu (pu (pu (pu (pu R 5 3 (some 6)) 5 4 (some 7)) 5 5 (some 8)) 5 6 (some 9)) 5 7 (some 10)) 11 0 (some 12)) 11 1 (some 13)) 11 3 (some 14)) 5 8 (some 11)) 15 0 (some 16)) 15 1 (some 17)) 15 3 (some 18)) 5 9 (some 15))) : pM l X yX2_init mX2_init 3 [.ref 5] (pK.take 6) (pK.take 19) I jz R Q := by
  refine pM_of rfl (fun _ => rfl) rfl (pT3 (by decide) (by decide)) (Nat.le_of_ble_eq_true rfl) ?_
  refine pE_aload_n dX2_init_0 rfl rfl ?_
  refine pE_objInit dX2_init_1 lkX2_3 lkObj.1 lkObj.2 (by decide) (Nat.le_of_ble_eq_true rfl) ?_
  refine pE_aload_n dX2_init_4 rfl rfl ?_
  refine pE_bipush (v := nI 9) dX2_init_5 rfl ?_
  refine pE_putI dX2_init_7 flX2_9 ftX2 fiX2_0 rfl rfl (by first | assumption | rfl) ?_
  refine pE_aload_n dX2_init_10 rfl rfl ?_
  refine pE_iconst (v := nI 0) dX2_init_11 rfl ?_
  refine pE_putI dX2_init_12 flX2_15 ftX2 fiX2_1 rfl rfl (by first | assumption | rfl) ?_
  rw [pu_z (by exact (congrFun (hz _ (by decide)) _).trans nI_0.symm)]
  refine pE_aload_n dX2_init_15 rfl rfl ?_
  refine pE_iconst (v := nI 0) dX2_init_16 rfl ?_
  refine pE_putI dX2_init_17 flX2_18 ftX2 fiX2_2 rfl rfl (by first | assumption | rfl) ?_
  rw [pu_z (by exact (congrFun (hz _ (by decide)) _).trans nI_0.symm)]
  refine pE_aload_n dX2_init_20 rfl rfl ?_
  refine pE_bipush (v := nI 8) dX2_init_21 rfl ?_
  refine pE_newAT (m := 6) dX2_init_23 (by simp) ka_int rfl (by decide) (by decide) (by decide) (by exact hz _ (by decide)) ?_
  refine pE_putRF dX2_init_25 flX2_21 ftX2 fiX2_3 ⟨rfl, _, rfl, rfl, pT1_1 162 rfl rfl⟩ (pRt_a _) rfl (by first | assumption | rfl) ?_
  refine pE_aload_n dX2_init_28 rfl rfl ?_
  refine pE_bipush (v := nI 8) dX2_init_29 rfl ?_
  refine pE_newAT (m := 7) dX2_init_31 (by simp) ka_int rfl (by decide) (by decide) (by decide) (by exact hz _ (by decide)) ?_
  refine pE_putRF dX2_init_33 flX2_25 ftX2 fiX2_4 ⟨rfl, _, rfl, rfl, pT1_1 166 rfl rfl⟩ (pRt_a _) rfl (by first | assumption | rfl) ?_
  refine pE_aload_n dX2_init_36 rfl rfl ?_
  refine pE_bipush (v := nI 8) dX2_init_37 rfl ?_
  refine pE_newAT (m := 8) dX2_init_39 (by simp) ka_int rfl (by decide) (by decide) (by decide) (by exact hz _ (by decide)) ?_
  refine pE_putRF dX2_init_41 flX2_28 ftX2 fiX2_5 ⟨rfl, _, rfl, rfl, pT1_1 170 rfl rfl⟩ (pRt_a _) rfl (by first | assumption | rfl) ?_
  refine pE_aload_n dX2_init_44 rfl rfl ?_
  refine pE_bipush (v := nI 8) dX2_init_45 rfl ?_
  refine pE_newAT (m := 9) dX2_init_47 (by simp) ka_int rfl (by decide) (by decide) (by decide) (by exact hz _ (by decide)) ?_
  refine pE_putRF dX2_init_49 flX2_31 ftX2 fiX2_6 ⟨rfl, _, rfl, rfl, pT1_1 174 rfl rfl⟩ (pRt_a _) rfl (by first | assumption | rfl) ?_
  refine pE_aload_n dX2_init_52 rfl rfl ?_
  refine pE_bipush (v := nI 8) dX2_init_53 rfl ?_
  refine pE_newAT (m := 10) dX2_init_55 (by simp) ka_int rfl (by decide) (by decide) (by decide) (by exact hz _ (by decide)) ?_
  refine pE_putRF dX2_init_57 flX2_34 ftX2 fiX2_7 ⟨rfl, _, rfl, rfl, pT1_1 178 rfl rfl⟩ (pRt_a _) rfl (by first | assumption | rfl) ?_
  refine pE_aload_n dX2_init_60 rfl rfl ?_
  refine pE_newT (m := 11) dX2_init_61 ftX1 nwX2_37 rfl (by decide) (by decide) (by exact hz _ (by decide)) (by rfl) (by exact hr _ (by decide)) ?_
  refine pE_dupR dX2_init_64 ?_
  refine pE_callI (d' := 1) (as := []) dX2_init_65 lkX2_39 (cwX1_init _ _) ivX1_init rfl rfl rfl rfl (Nat.le_of_ble_eq_true rfl) (by decide) (pT5 (b := 15) (by decide) (by decide) (by decide)) ?_
  refine M_X1_init_11 (fun c hc => by rw [pu_ne _ _ _ (by omega)]; exact hz c (by omega)) (fun c hc => by rw [pu_ne _ _ _ (by omega), pu_ne _ _ _ (by omega), pu_ne _ _ _ (by omega), pu_ne _ _ _ (by omega), pu_ne _ _ _ (by omega)]; exact hr c (by omega)) ?_
  refine pE_putRF dX2_init_68 flX2_40 ftX2 fiX2_8 ⟨rfl, _, rfl, rfl, pT1_1 181 rfl rfl⟩ (pRt_o _) rfl (by first | assumption | rfl) ?_
  refine pE_aload_n dX2_init_71 rfl rfl ?_
  refine pE_newT (m := 15) dX2_init_72 ftX1 nwX2_37 rfl (by decide) (by decide) (by exact hz _ (by decide)) (by rfl) (by exact hr _ (by decide)) ?_
  refine pE_dupR dX2_init_75 ?_
  refine pE_callI (d' := 1) (as := []) dX2_init_76 lkX2_39 (cwX1_init _ _) ivX1_init rfl rfl rfl rfl (Nat.le_of_ble_eq_true rfl) (by decide) (pT5 (b := 19) (by decide) (by decide) (by decide)) ?_
  refine M_X1_init_15 (fun c hc => by rw [pu_ne _ _ _ (by omega)]; exact hz c (by omega)) (fun c hc => by rw [pu_ne _ _ _ (by omega), pu_ne _ _ _ (by omega), pu_ne _ _ _ (by omega), pu_ne _ _ _ (by omega), pu_ne _ _ _ (by omega), pu_ne _ _ _ (by omega), pu_ne _ _ _ (by omega), pu_ne _ _ _ (by omega), pu_ne _ _ _ (by omega)]; exact hr c (by omega)) ?_
  refine pE_putRF dX2_init_79 flX2_44 ftX2 fiX2_9 ⟨rfl, _, rfl, rfl, pT1_1 183 rfl rfl⟩ (pRt_o _) rfl (by first | assumption | rfl) ?_
  refine pE_aload_n dX2_init_82 rfl rfl ?_
  refine pE_iconst (v := nI 0) dX2_init_83 rfl ?_
  refine pE_putI dX2_init_84 flX2_47 ftX2 fiX2_10 rfl rfl (by first | assumption | rfl) ?_
  rw [pu_z (by exact (congrFun (hz _ (by decide)) _).trans nI_0.symm)]
  refine pE_aload_n dX2_init_87 rfl rfl ?_
  refine pE_iconst (v := nI 0) dX2_init_88 rfl ?_
  refine pE_putI dX2_init_89 flX2_50 ftX2 fiX2_11 rfl rfl (by first | assumption | rfl) ?_
  rw [pu_z (by exact (congrFun (hz _ (by decide)) _).trans nI_0.symm)]
  refine pE_aload_n dX2_init_92 rfl rfl ?_
  refine pE_callV (d' := 2) (as := []) dX2_init_93 lkX2_53 (cwX2_clear _ _) ivX2_clear ⟨_, rfl, rfl⟩ (by first | assumption | rfl) rfl rfl (Nat.le_of_ble_eq_true rfl) (by decide) (pT5 (b := 19) (by decide) (by decide) (by decide)) ?_
  refine GM_X2_clear (pTk1 19 (by decide)) (show HFk (pK.take 19) (pu (pu (pu (pu (pu (pu (pu (pu (pu (pu (pu (pu (pu R 5 3 (some 6)) 5 4 (some 7)) 5 5 (some 8)) 5 6 (some 9)) 5 7 (some 10)) 11 0 (some 12)) 11 1 (some 13)) 11 3 (some 14)) 5 8 (some 11)) 15 0 (some 16)) 15 1 (some 17)) 15 3 (some 18)) 5 9 (some 15)) 5 from ⟨rfl, rfl, rfl, rfl, rfl, rfl, rfl, rfl, rfl, rfl, rfl, rfl, rfl, rfl, rfl, rfl, rfl, rfl, rfl, rfl, rfl, rfl, rfl, rfl, rfl, rfl, rfl⟩) (Or.inl rfl) (fun I1 x1 c1 f1 f2 => ?_)
  refine pE_vret dX2_init_96 rfl rfl ?_
  exact hq I1 ((sHo.rf.w (by omega)).tr x1) c1 f1 f2
set_option maxHeartbeats 400000 in
set_option maxRecDepth 100000 in
theorem M_X2_init_19 {l : Launch} {X : pX} {I : pHI} {R : pHR} {Q : pQ} (hz : ∀ c, 19 ≤ c → I c = fun _ => 0) (hr : ∀ c, 19 ≤ c → R c = fun _ => none) (hq : ∀ I1, sHo 19 I I1 → cH 19 H9 I1 → cF 25 (dfl 0) I1 → cF 29 (dfl 1) I1 → Q none I1 jz (pu (pu (pu (pu (pu (pu (pu (pu (pu (pu (pu (pu (pu R 19 3 (some 20)) 19 4 (some 21)) 19 5 (some 22)) 19 6 (some 23)) 19 7 (some 24)) 25 0 (some 26)) 25 1 (some 27)) 25 3 (some 28)) 19 8 (some 25)) 29 0 (some 30)) 29 1 (some 31)) 29 3 (some 32)) 19 9 (some 29))) : pM l X yX2_init mX2_init 3 [.ref 19] (pK.take 20) (pK.take 33) I jz R Q := by
  refine pM_of rfl (fun _ => rfl) rfl (pT3 (by decide) (by decide)) (Nat.le_of_ble_eq_true rfl) ?_
  refine pE_aload_n dX2_init_0 rfl rfl ?_
  refine pE_objInit dX2_init_1 lkX2_3 lkObj.1 lkObj.2 (by decide) (Nat.le_of_ble_eq_true rfl) ?_
  refine pE_aload_n dX2_init_4 rfl rfl ?_
  refine pE_bipush (v := nI 9) dX2_init_5 rfl ?_
  refine pE_putI dX2_init_7 flX2_9 ftX2 fiX2_0 rfl rfl (by first | assumption | rfl) ?_
  refine pE_aload_n dX2_init_10 rfl rfl ?_
  refine pE_iconst (v := nI 0) dX2_init_11 rfl ?_
  refine pE_putI dX2_init_12 flX2_15 ftX2 fiX2_1 rfl rfl (by first | assumption | rfl) ?_
  rw [pu_z (by exact (congrFun (hz _ (by decide)) _).trans nI_0.symm)]
  refine pE_aload_n dX2_init_15 rfl rfl ?_
  refine pE_iconst (v := nI 0) dX2_init_16 rfl ?_
  refine pE_putI dX2_init_17 flX2_18 ftX2 fiX2_2 rfl rfl (by first | assumption | rfl) ?_
  rw [pu_z (by exact (congrFun (hz _ (by decide)) _).trans nI_0.symm)]
  refine pE_aload_n dX2_init_20 rfl rfl ?_
  refine pE_bipush (v := nI 8) dX2_init_21 rfl ?_
  refine pE_newAT (m := 20) dX2_init_23 (by simp) ka_int rfl (by decide) (by decide) (by decide) (by exact hz _ (by decide)) ?_
  refine pE_putRF dX2_init_25 flX2_21 ftX2 fiX2_3 ⟨rfl, _, rfl, rfl, pT1_1 162 rfl rfl⟩ (pRt_a _) rfl (by first | assumption | rfl) ?_
  refine pE_aload_n dX2_init_28 rfl rfl ?_
  refine pE_bipush (v := nI 8) dX2_init_29 rfl ?_
  refine pE_newAT (m := 21) dX2_init_31 (by simp) ka_int rfl (by decide) (by decide) (by decide) (by exact hz _ (by decide)) ?_
  refine pE_putRF dX2_init_33 flX2_25 ftX2 fiX2_4 ⟨rfl, _, rfl, rfl, pT1_1 166 rfl rfl⟩ (pRt_a _) rfl (by first | assumption | rfl) ?_
  refine pE_aload_n dX2_init_36 rfl rfl ?_
  refine pE_bipush (v := nI 8) dX2_init_37 rfl ?_
  refine pE_newAT (m := 22) dX2_init_39 (by simp) ka_int rfl (by decide) (by decide) (by decide) (by exact hz _ (by decide)) ?_
  refine pE_putRF dX2_init_41 flX2_28 ftX2 fiX2_5 ⟨rfl, _, rfl, rfl, pT1_1 170 rfl rfl⟩ (pRt_a _) rfl (by first | assumption | rfl) ?_
  refine pE_aload_n dX2_init_44 rfl rfl ?_
  refine pE_bipush (v := nI 8) dX2_init_45 rfl ?_
  refine pE_newAT (m := 23) dX2_init_47 (by simp) ka_int rfl (by decide) (by decide) (by decide) (by exact hz _ (by decide)) ?_
  refine pE_putRF dX2_init_49 flX2_31 ftX2 fiX2_6 ⟨rfl, _, rfl, rfl, pT1_1 174 rfl rfl⟩ (pRt_a _) rfl (by first | assumption | rfl) ?_
  refine pE_aload_n dX2_init_52 rfl rfl ?_
  refine pE_bipush (v := nI 8) dX2_init_53 rfl ?_
  refine pE_newAT (m := 24) dX2_init_55 (by simp) ka_int rfl (by decide) (by decide) (by decide) (by exact hz _ (by decide)) ?_
  refine pE_putRF dX2_init_57 flX2_34 ftX2 fiX2_7 ⟨rfl, _, rfl, rfl, pT1_1 178 rfl rfl⟩ (pRt_a _) rfl (by first | assumption | rfl) ?_
  refine pE_aload_n dX2_init_60 rfl rfl ?_
  refine pE_newT (m := 25) dX2_init_61 ftX1 nwX2_37 rfl (by decide) (by decide) (by exact hz _ (by decide)) (by rfl) (by exact hr _ (by decide)) ?_
  refine pE_dupR dX2_init_64 ?_
  refine pE_callI (d' := 1) (as := []) dX2_init_65 lkX2_39 (cwX1_init _ _) ivX1_init rfl rfl rfl rfl (Nat.le_of_ble_eq_true rfl) (by decide) (pT5 (b := 29) (by decide) (by decide) (by decide)) ?_
  refine M_X1_init_25 (fun c hc => by rw [pu_ne _ _ _ (by omega)]; exact hz c (by omega)) (fun c hc => by rw [pu_ne _ _ _ (by omega), pu_ne _ _ _ (by omega), pu_ne _ _ _ (by omega), pu_ne _ _ _ (by omega), pu_ne _ _ _ (by omega)]; exact hr c (by omega)) ?_
  refine pE_putRF dX2_init_68 flX2_40 ftX2 fiX2_8 ⟨rfl, _, rfl, rfl, pT1_1 181 rfl rfl⟩ (pRt_o _) rfl (by first | assumption | rfl) ?_
  refine pE_aload_n dX2_init_71 rfl rfl ?_
  refine pE_newT (m := 29) dX2_init_72 ftX1 nwX2_37 rfl (by decide) (by decide) (by exact hz _ (by decide)) (by rfl) (by exact hr _ (by decide)) ?_
  refine pE_dupR dX2_init_75 ?_
  refine pE_callI (d' := 1) (as := []) dX2_init_76 lkX2_39 (cwX1_init _ _) ivX1_init rfl rfl rfl rfl (Nat.le_of_ble_eq_true rfl) (by decide) (pT5 (b := 33) (by decide) (by decide) (by decide)) ?_
  refine M_X1_init_29 (fun c hc => by rw [pu_ne _ _ _ (by omega)]; exact hz c (by omega)) (fun c hc => by rw [pu_ne _ _ _ (by omega), pu_ne _ _ _ (by omega), pu_ne _ _ _ (by omega), pu_ne _ _ _ (by omega), pu_ne _ _ _ (by omega), pu_ne _ _ _ (by omega), pu_ne _ _ _ (by omega), pu_ne _ _ _ (by omega), pu_ne _ _ _ (by omega)]; exact hr c (by omega)) ?_
  refine pE_putRF dX2_init_79 flX2_44 ftX2 fiX2_9 ⟨rfl, _, rfl, rfl, pT1_1 183 rfl rfl⟩ (pRt_o _) rfl (by first | assumption | rfl) ?_
  refine pE_aload_n dX2_init_82 rfl rfl ?_
  refine pE_iconst (v := nI 0) dX2_init_83 rfl ?_
  refine pE_putI dX2_init_84 flX2_47 ftX2 fiX2_10 rfl rfl (by first | assumption | rfl) ?_
  rw [pu_z (by exact (congrFun (hz _ (by decide)) _).trans nI_0.symm)]
  refine pE_aload_n dX2_init_87 rfl rfl ?_
  refine pE_iconst (v := nI 0) dX2_init_88 rfl ?_
  refine pE_putI dX2_init_89 flX2_50 ftX2 fiX2_11 rfl rfl (by first | assumption | rfl) ?_
  rw [pu_z (by exact (congrFun (hz _ (by decide)) _).trans nI_0.symm)]
  refine pE_aload_n dX2_init_92 rfl rfl ?_
  refine pE_callV (d' := 2) (as := []) dX2_init_93 lkX2_53 (cwX2_clear _ _) ivX2_clear ⟨_, rfl, rfl⟩ (by first | assumption | rfl) rfl rfl (Nat.le_of_ble_eq_true rfl) (by decide) (pT5 (b := 33) (by decide) (by decide) (by decide)) ?_
  refine GM_X2_clear (pTk1 33 (by decide)) (show HFk (pK.take 33) (pu (pu (pu (pu (pu (pu (pu (pu (pu (pu (pu (pu (pu R 19 3 (some 20)) 19 4 (some 21)) 19 5 (some 22)) 19 6 (some 23)) 19 7 (some 24)) 25 0 (some 26)) 25 1 (some 27)) 25 3 (some 28)) 19 8 (some 25)) 29 0 (some 30)) 29 1 (some 31)) 29 3 (some 32)) 19 9 (some 29)) 19 from ⟨rfl, rfl, rfl, rfl, rfl, rfl, rfl, rfl, rfl, rfl, rfl, rfl, rfl, rfl, rfl, rfl, rfl, rfl, rfl, rfl, rfl, rfl, rfl, rfl, rfl, rfl, rfl⟩) (Or.inr rfl) (fun I1 x1 c1 f1 f2 => ?_)
  refine pE_vret dX2_init_96 rfl rfl ?_
  exact hq I1 ((sHo.rf.w (by omega)).tr x1) c1 f1 f2
set_option maxHeartbeats 400000 in
set_option maxRecDepth 100000 in
theorem M_X12_init_67 {l : Launch} {X : pX} {I : pHI} {R : pHR} {Q : pQ} (hz : ∀ c, 67 ≤ c → I c = fun _ => 0) (hr : ∀ c, 67 ≤ c → R c = fun _ => none) (hq : Q none (pu (pu I 67 3 (-1)) 67 41 (nI 9)) jz (pu (pu (pu (pu (pu (pu (pu (pu (pu (pu (pu (pu (pu (pu (pu (pu (pu (pu (pu (pu (pu (pu (pu (pu (pu (pu (pu (pu (pu (pu (pu (pu (pu (pu (pu (pu (pu (pu (pu (pu (pu R 67 0 (some 68)) 67 10 (some 69)) 67 11 (some 70)) 67 12 (some 71)) 67 13 (some 72)) 67 14 (some 73)) 67 15 (some 74)) 67 16 (some 75)) 67 17 (some 76)) 67 18 (some 77)) 67 19 (some 78)) 67 26 (some 79)) 67 27 (some 80)) 67 28 (some 81)) 67 29 (some 82)) 67 30 (some 83)) 67 31 (some 84)) 67 32 (some 85)) 67 33 (some 86)) 67 34 (some 87)) 67 35 (some 88)) 67 36 (some 89)) 67 45 (some 90)) 67 46 (some 91)) 67 47 (some 92)) 67 50 (some 93)) 67 51 (some 94)) 67 53 (some 95)) 67 54 (some 96)) 67 55 (some 97)) 67 56 (some 98)) 67 57 (some 99)) 67 58 (some 100)) 67 59 (some 101)) 67 60 (some 102)) 67 61 (some 103)) 67 62 (some 104)) 67 63 (some 105)) 67 66 (some 106)) 67 67 (some 107)) 67 68 (some 108))) : pM l X yX12_init mX12_init 1 [.ref 67] (pK.take 68) (pK.take 109) I jz R Q := by
  refine pM_of rfl (fun _ => rfl) rfl (pT3 (by decide) (by decide)) (Nat.le_of_ble_eq_true rfl) ?_
  refine pE_aload_n dX12_init_0 rfl rfl ?_
  refine pE_objInit dX12_init_1 lkX12_1 lkObj.1 lkObj.2 (by decide) (Nat.le_of_ble_eq_true rfl) ?_
  refine pE_aload_n dX12_init_4 rfl rfl ?_
  refine pE_sipush (v := nI 1600) dX12_init_5 rfl ?_
  refine pE_newAT (m := 68) dX12_init_8 (by simp) ka_int rfl (by decide) (by decide) (by decide) (by exact hz _ (by decide)) ?_
  refine pE_putRF dX12_init_10 flX12_7 ftX12 fiX12_0 ⟨rfl, _, rfl, rfl, pT1_6 103 rfl rfl⟩ (pRt_a _) rfl (by first | assumption | rfl) ?_
  refine pE_aload_n dX12_init_13 rfl rfl ?_
  refine pE_iconst (v := -1) dX12_init_14 rfl ?_
  refine pE_putI dX12_init_15 flX12_13 ftX12 fiX12_3 rfl rfl (by first | assumption | rfl) ?_
  refine pE_aload_n dX12_init_18 rfl rfl ?_
  refine pE_bipush (v := nI 8) dX12_init_19 rfl ?_
  refine pE_newLT (m := 69) dX12_init_21 ka_long rfl (by decide) (by decide) (by decide) (by rfl) ?_
  refine pE_putRF dX12_init_23 flX12_17 ftX12 fiX12_10 ⟨rfl, _, rfl, rfl, pT1_6 113 rfl rfl⟩ (pRt_a _) rfl (by first | assumption | rfl) ?_
  refine pE_aload_n dX12_init_26 rfl rfl ?_
  refine pE_sipush (v := nI 640) dX12_init_27 rfl ?_
  refine pE_newAT (m := 70) dX12_init_30 (by simp) ka_int rfl (by decide) (by decide) (by decide) (by exact hz _ (by decide)) ?_
  refine pE_putRF dX12_init_32 flX12_21 ftX12 fiX12_11 ⟨rfl, _, rfl, rfl, pT1_6 114 rfl rfl⟩ (pRt_a _) rfl (by first | assumption | rfl) ?_
  refine pE_aload_n dX12_init_35 rfl rfl ?_
  refine pE_sipush (v := nI 640) dX12_init_36 rfl ?_
  refine pE_newAT (m := 71) dX12_init_39 (by simp) ka_int rfl (by decide) (by decide) (by decide) (by exact hz _ (by decide)) ?_
  refine pE_putRF dX12_init_41 flX12_24 ftX12 fiX12_12 ⟨rfl, _, rfl, rfl, pT1_6 115 rfl rfl⟩ (pRt_a _) rfl (by first | assumption | rfl) ?_
  refine pE_aload_n dX12_init_44 rfl rfl ?_
  refine pE_iconst (v := nI 2) dX12_init_45 rfl ?_
  refine pE_newAT (m := 72) dX12_init_46 (by simp) ka_int rfl (by decide) (by decide) (by decide) (by exact hz _ (by decide)) ?_
  refine pE_putRF dX12_init_48 flX12_27 ftX12 fiX12_13 ⟨rfl, _, rfl, rfl, pT1_6 116 rfl rfl⟩ (pRt_a _) rfl (by first | assumption | rfl) ?_
  refine pE_aload_n dX12_init_51 rfl rfl ?_
  refine pE_sipush (v := nI 640) dX12_init_52 rfl ?_
  refine pE_newAT (m := 73) dX12_init_55 (by simp) ka_int rfl (by decide) (by decide) (by decide) (by exact hz _ (by decide)) ?_
  refine pE_putRF dX12_init_57 flX12_30 ftX12 fiX12_14 ⟨rfl, _, rfl, rfl, pT1_6 117 rfl rfl⟩ (pRt_a _) rfl (by first | assumption | rfl) ?_
  refine pE_aload_n dX12_init_60 rfl rfl ?_
  refine pE_sipush (v := nI 640) dX12_init_61 rfl ?_
  refine pE_newAT (m := 74) dX12_init_64 (by simp) ka_int rfl (by decide) (by decide) (by decide) (by exact hz _ (by decide)) ?_
  refine pE_putRF dX12_init_66 flX12_33 ftX12 fiX12_15 ⟨rfl, _, rfl, rfl, pT1_6 118 rfl rfl⟩ (pRt_a _) rfl (by first | assumption | rfl) ?_
  refine pE_aload_n dX12_init_69 rfl rfl ?_
  refine pE_iconst (v := nI 2) dX12_init_70 rfl ?_
  refine pE_newAT (m := 75) dX12_init_71 (by simp) ka_int rfl (by decide) (by decide) (by decide) (by exact hz _ (by decide)) ?_
  refine pE_putRF dX12_init_73 flX12_36 ftX12 fiX12_16 ⟨rfl, _, rfl, rfl, pT1_6 119 rfl rfl⟩ (pRt_a _) rfl (by first | assumption | rfl) ?_
  refine pE_aload_n dX12_init_76 rfl rfl ?_
  refine pE_sipush (v := nI 160) dX12_init_77 rfl ?_
  refine pE_newAT (m := 76) dX12_init_80 (by simp) ka_int rfl (by decide) (by decide) (by decide) (by exact hz _ (by decide)) ?_
  refine pE_putRF dX12_init_82 flX12_39 ftX12 fiX12_17 ⟨rfl, _, rfl, rfl, pT1_6 120 rfl rfl⟩ (pRt_a _) rfl (by first | assumption | rfl) ?_
  refine pE_aload_n dX12_init_85 rfl rfl ?_
  refine pE_bipush (v := nI 64) dX12_init_86 rfl ?_
  refine pE_newAT (m := 77) dX12_init_88 (by simp) ka_int rfl (by decide) (by decide) (by decide) (by exact hz _ (by decide)) ?_
  refine pE_putRF dX12_init_90 flX12_42 ftX12 fiX12_18 ⟨rfl, _, rfl, rfl, pT1_6 121 rfl rfl⟩ (pRt_a _) rfl (by first | assumption | rfl) ?_
  refine pE_aload_n dX12_init_93 rfl rfl ?_
  refine pE_iconst (v := nI 2) dX12_init_94 rfl ?_
  refine pE_newAT (m := 78) dX12_init_95 (by simp) ka_boolean rfl (by decide) (by decide) (by decide) (by exact hz _ (by decide)) ?_
  refine pE_putRF dX12_init_97 flX12_45 ftX12 fiX12_19 ⟨rfl, _, rfl, rfl, pT1_6 122 rfl rfl⟩ (pRt_a _) rfl (by first | assumption | rfl) ?_
  refine pE_aload_n dX12_init_100 rfl rfl ?_
  refine pE_bipush (v := nI 6) dX12_init_101 rfl ?_
  refine pE_newAT (m := 79) dX12_init_103 (by simp) ka_int rfl (by decide) (by decide) (by decide) (by exact hz _ (by decide)) ?_
  refine pE_putRF dX12_init_105 flX12_49 ftX12 fiX12_26 ⟨rfl, _, rfl, rfl, pT1_6 129 rfl rfl⟩ (pRt_a _) rfl (by first | assumption | rfl) ?_
  refine pE_aload_n dX12_init_108 rfl rfl ?_
  refine pE_bipush (v := nI 8) dX12_init_109 rfl ?_
  refine pE_newAT (m := 80) dX12_init_111 (by simp) ka_int rfl (by decide) (by decide) (by decide) (by exact hz _ (by decide)) ?_
  refine pE_putRF dX12_init_113 flX12_52 ftX12 fiX12_27 ⟨rfl, _, rfl, rfl, pT1_6 130 rfl rfl⟩ (pRt_a _) rfl (by first | assumption | rfl) ?_
  refine pE_aload_n dX12_init_116 rfl rfl ?_
  refine pE_bipush (v := nI 8) dX12_init_117 rfl ?_
  refine pE_newAT (m := 81) dX12_init_119 (by simp) ka_int rfl (by decide) (by decide) (by decide) (by exact hz _ (by decide)) ?_
  refine pE_putRF dX12_init_121 flX12_55 ftX12 fiX12_28 ⟨rfl, _, rfl, rfl, pT1_6 131 rfl rfl⟩ (pRt_a _) rfl (by first | assumption | rfl) ?_
  refine pE_aload_n dX12_init_124 rfl rfl ?_
  refine pE_bipush (v := nI 8) dX12_init_125 rfl ?_
  refine pE_newAT (m := 82) dX12_init_127 (by simp) ka_int rfl (by decide) (by decide) (by decide) (by exact hz _ (by decide)) ?_
  refine pE_putRF dX12_init_129 flX12_58 ftX12 fiX12_29 ⟨rfl, _, rfl, rfl, pT1_6 132 rfl rfl⟩ (pRt_a _) rfl (by first | assumption | rfl) ?_
  refine pE_aload_n dX12_init_132 rfl rfl ?_
  refine pE_bipush (v := nI 8) dX12_init_133 rfl ?_
  refine pE_newAT (m := 83) dX12_init_135 (by simp) ka_int rfl (by decide) (by decide) (by decide) (by exact hz _ (by decide)) ?_
  refine pE_putRF dX12_init_137 flX12_61 ftX12 fiX12_30 ⟨rfl, _, rfl, rfl, pT1_6 133 rfl rfl⟩ (pRt_a _) rfl (by first | assumption | rfl) ?_
  refine pE_aload_n dX12_init_140 rfl rfl ?_
  refine pE_bipush (v := nI 8) dX12_init_141 rfl ?_
  refine pE_newAT (m := 84) dX12_init_143 (by simp) ka_int rfl (by decide) (by decide) (by decide) (by exact hz _ (by decide)) ?_
  refine pE_putRF dX12_init_145 flX12_64 ftX12 fiX12_31 ⟨rfl, _, rfl, rfl, pT1_6 134 rfl rfl⟩ (pRt_a _) rfl (by first | assumption | rfl) ?_
  refine pE_aload_n dX12_init_148 rfl rfl ?_
  refine pE_bipush (v := nI 8) dX12_init_149 rfl ?_
  refine pE_newAT (m := 85) dX12_init_151 (by simp) ka_int rfl (by decide) (by decide) (by decide) (by exact hz _ (by decide)) ?_
  refine pE_putRF dX12_init_153 flX12_67 ftX12 fiX12_32 ⟨rfl, _, rfl, rfl, pT1_6 135 rfl rfl⟩ (pRt_a _) rfl (by first | assumption | rfl) ?_
  refine pE_aload_n dX12_init_156 rfl rfl ?_
  refine pE_bipush (v := nI 8) dX12_init_157 rfl ?_
  refine pE_newAT (m := 86) dX12_init_159 (by simp) ka_int rfl (by decide) (by decide) (by decide) (by exact hz _ (by decide)) ?_
  refine pE_putRF dX12_init_161 flX12_70 ftX12 fiX12_33 ⟨rfl, _, rfl, rfl, pT1_6 136 rfl rfl⟩ (pRt_a _) rfl (by first | assumption | rfl) ?_
  refine pE_aload_n dX12_init_164 rfl rfl ?_
  refine pE_bipush (v := nI 8) dX12_init_165 rfl ?_
  refine pE_newAT (m := 87) dX12_init_167 (by simp) ka_int rfl (by decide) (by decide) (by decide) (by exact hz _ (by decide)) ?_
  refine pE_putRF dX12_init_169 flX12_73 ftX12 fiX12_34 ⟨rfl, _, rfl, rfl, pT1_6 137 rfl rfl⟩ (pRt_a _) rfl (by first | assumption | rfl) ?_
  refine pE_aload_n dX12_init_172 rfl rfl ?_
  refine pE_bipush (v := nI 8) dX12_init_173 rfl ?_
  refine pE_newAT (m := 88) dX12_init_175 (by simp) ka_int rfl (by decide) (by decide) (by decide) (by exact hz _ (by decide)) ?_
  refine pE_putRF dX12_init_177 flX12_76 ftX12 fiX12_35 ⟨rfl, _, rfl, rfl, pT1_6 138 rfl rfl⟩ (pRt_a _) rfl (by first | assumption | rfl) ?_
  refine pE_aload_n dX12_init_180 rfl rfl ?_
  refine pE_bipush (v := nI 8) dX12_init_181 rfl ?_
  refine pE_newAT (m := 89) dX12_init_183 (by simp) ka_int rfl (by decide) (by decide) (by decide) (by exact hz _ (by decide)) ?_
  refine pE_putRF dX12_init_185 flX12_79 ftX12 fiX12_36 ⟨rfl, _, rfl, rfl, pT1_6 139 rfl rfl⟩ (pRt_a _) rfl (by first | assumption | rfl) ?_
  refine pE_aload_n dX12_init_188 rfl rfl ?_
  refine pE_bipush (v := nI 9) dX12_init_189 rfl ?_
  refine pE_putI dX12_init_191 flX12_82 ftX12 fiX12_41 rfl rfl (by first | assumption | rfl) ?_
  refine pE_aload_n dX12_init_194 rfl rfl ?_
  refine pE_bipush (v := nI 28) dX12_init_195 rfl ?_
  refine pE_newAT (m := 90) dX12_init_197 (by simp) ka_int rfl (by decide) (by decide) (by decide) (by exact hz _ (by decide)) ?_
  refine pE_putRF dX12_init_199 flX12_85 ftX12 fiX12_45 ⟨rfl, _, rfl, rfl, pT1_6 148 rfl rfl⟩ (pRt_a _) rfl (by first | assumption | rfl) ?_
  refine pE_aload_n dX12_init_202 rfl rfl ?_
  refine pE_bipush (v := nI 28) dX12_init_203 rfl ?_
  refine pE_newAT (m := 91) dX12_init_205 (by simp) ka_int rfl (by decide) (by decide) (by decide) (by exact hz _ (by decide)) ?_
  refine pE_putRF dX12_init_207 flX12_88 ftX12 fiX12_46 ⟨rfl, _, rfl, rfl, pT1_6 149 rfl rfl⟩ (pRt_a _) rfl (by first | assumption | rfl) ?_
  refine pE_aload_n dX12_init_210 rfl rfl ?_
  refine pE_sipush (v := nI 1120) dX12_init_211 rfl ?_
  refine pE_newAT (m := 92) dX12_init_214 (by simp) ka_int rfl (by decide) (by decide) (by decide) (by exact hz _ (by decide)) ?_
  refine pE_putRF dX12_init_216 flX12_91 ftX12 fiX12_47 ⟨rfl, _, rfl, rfl, pT1_6 150 rfl rfl⟩ (pRt_a _) rfl (by first | assumption | rfl) ?_
  refine pE_aload_n dX12_init_219 rfl rfl ?_
  refine pE_bipush (v := nI 8) dX12_init_220 rfl ?_
  refine pE_newAT (m := 93) dX12_init_222 (by simp) ka_int rfl (by decide) (by decide) (by decide) (by exact hz _ (by decide)) ?_
  refine pE_putRF dX12_init_224 flX12_94 ftX12 fiX12_50 ⟨rfl, _, rfl, rfl, pT1_6 153 rfl rfl⟩ (pRt_a _) rfl (by first | assumption | rfl) ?_
  refine pE_aload_n dX12_init_227 rfl rfl ?_
  refine pE_bipush (v := nI 8) dX12_init_228 rfl ?_
  refine pE_newAT (m := 94) dX12_init_230 (by simp) ka_int rfl (by decide) (by decide) (by decide) (by exact hz _ (by decide)) ?_
  refine pE_putRF dX12_init_232 flX12_97 ftX12 fiX12_51 ⟨rfl, _, rfl, rfl, pT1_6 154 rfl rfl⟩ (pRt_a _) rfl (by first | assumption | rfl) ?_
  refine pE_aload_n dX12_init_235 rfl rfl ?_
  refine pE_sipush (v := nI 2304) dX12_init_236 rfl ?_
  refine pE_newAT (m := 95) dX12_init_239 (by simp) ka_int rfl (by decide) (by decide) (by decide) (by exact hz _ (by decide)) ?_
  refine pE_putRF dX12_init_241 flX12_100 ftX12 fiX12_53 ⟨rfl, _, rfl, rfl, pT1_6 156 rfl rfl⟩ (pRt_a _) rfl (by first | assumption | rfl) ?_
  refine pE_aload_n dX12_init_244 rfl rfl ?_
  refine pE_sipush (v := nI 2304) dX12_init_245 rfl ?_
  refine pE_newAT (m := 96) dX12_init_248 (by simp) ka_int rfl (by decide) (by decide) (by decide) (by exact hz _ (by decide)) ?_
  refine pE_putRF dX12_init_250 flX12_103 ftX12 fiX12_54 ⟨rfl, _, rfl, rfl, pT1_6 157 rfl rfl⟩ (pRt_a _) rfl (by first | assumption | rfl) ?_
  refine pE_aload_n dX12_init_253 rfl rfl ?_
  refine pE_bipush (v := nI 8) dX12_init_254 rfl ?_
  refine pE_newAT (m := 97) dX12_init_256 (by simp) ka_int rfl (by decide) (by decide) (by decide) (by exact hz _ (by decide)) ?_
  refine pE_putRF dX12_init_258 flX12_106 ftX12 fiX12_55 ⟨rfl, _, rfl, rfl, pT1_6 158 rfl rfl⟩ (pRt_a _) rfl (by first | assumption | rfl) ?_
  refine pE_aload_n dX12_init_261 rfl rfl ?_
  refine pE_bipush (v := nI 64) dX12_init_262 rfl ?_
  refine pE_newAT (m := 98) dX12_init_264 (by simp) ka_boolean rfl (by decide) (by decide) (by decide) (by exact hz _ (by decide)) ?_
  refine pE_putRF dX12_init_266 flX12_109 ftX12 fiX12_56 ⟨rfl, _, rfl, rfl, pT1_6 159 rfl rfl⟩ (pRt_a _) rfl (by first | assumption | rfl) ?_
  refine pE_aload_n dX12_init_269 rfl rfl ?_
  refine pE_bipush (v := nI 8) dX12_init_270 rfl ?_
  refine pE_newAT (m := 99) dX12_init_272 (by simp) ka_int rfl (by decide) (by decide) (by decide) (by exact hz _ (by decide)) ?_
  refine pE_putRF dX12_init_274 flX12_112 ftX12 fiX12_57 ⟨rfl, _, rfl, rfl, pT1_6 160 rfl rfl⟩ (pRt_a _) rfl (by first | assumption | rfl) ?_
  refine pE_aload_n dX12_init_277 rfl rfl ?_
  refine pE_bipush (v := nI 41) dX12_init_278 rfl ?_
  refine pE_newAT (m := 100) dX12_init_280 (by simp) ka_int rfl (by decide) (by decide) (by decide) (by exact hz _ (by decide)) ?_
  refine pE_putRF dX12_init_282 flX12_115 ftX12 fiX12_58 ⟨rfl, _, rfl, rfl, pT1_6 161 rfl rfl⟩ (pRt_a _) rfl (by first | assumption | rfl) ?_
  refine pE_aload_n dX12_init_285 rfl rfl ?_
  refine pE_bipush (v := nI 30) dX12_init_286 rfl ?_
  refine pE_newAT (m := 101) dX12_init_288 (by simp) ka_int rfl (by decide) (by decide) (by decide) (by exact hz _ (by decide)) ?_
  refine pE_putRF dX12_init_290 flX12_118 ftX12 fiX12_59 ⟨rfl, _, rfl, rfl, pT1_6 162 rfl rfl⟩ (pRt_a _) rfl (by first | assumption | rfl) ?_
  refine pE_aload_n dX12_init_293 rfl rfl ?_
  refine pE_bipush (v := nI 30) dX12_init_294 rfl ?_
  refine pE_newAT (m := 102) dX12_init_296 (by simp) ka_int rfl (by decide) (by decide) (by decide) (by exact hz _ (by decide)) ?_
  refine pE_putRF dX12_init_298 flX12_121 ftX12 fiX12_60 ⟨rfl, _, rfl, rfl, pT1_6 163 rfl rfl⟩ (pRt_a _) rfl (by first | assumption | rfl) ?_
  refine pE_aload_n dX12_init_301 rfl rfl ?_
  refine pE_bipush (v := nI 30) dX12_init_302 rfl ?_
  refine pE_newAT (m := 103) dX12_init_304 (by simp) ka_int rfl (by decide) (by decide) (by decide) (by exact hz _ (by decide)) ?_
  refine pE_putRF dX12_init_306 flX12_124 ftX12 fiX12_61 ⟨rfl, _, rfl, rfl, pT1_6 164 rfl rfl⟩ (pRt_a _) rfl (by first | assumption | rfl) ?_
  refine pE_aload_n dX12_init_309 rfl rfl ?_
  refine pE_bipush (v := nI 30) dX12_init_310 rfl ?_
  refine pE_newAT (m := 104) dX12_init_312 (by simp) ka_int rfl (by decide) (by decide) (by decide) (by exact hz _ (by decide)) ?_
  refine pE_putRF dX12_init_314 flX12_127 ftX12 fiX12_62 ⟨rfl, _, rfl, rfl, pT1_6 165 rfl rfl⟩ (pRt_a _) rfl (by first | assumption | rfl) ?_
  refine pE_aload_n dX12_init_317 rfl rfl ?_
  refine pE_bipush (v := nI 30) dX12_init_318 rfl ?_
  refine pE_newAT (m := 105) dX12_init_320 (by simp) ka_boolean rfl (by decide) (by decide) (by decide) (by exact hz _ (by decide)) ?_
  refine pE_putRF dX12_init_322 flX12_130 ftX12 fiX12_63 ⟨rfl, _, rfl, rfl, pT1_6 166 rfl rfl⟩ (pRt_a _) rfl (by first | assumption | rfl) ?_
  refine pE_aload_n dX12_init_325 rfl rfl ?_
  refine pE_bipush (v := nI 21) dX12_init_326 rfl ?_
  refine pE_newAT (m := 106) dX12_init_328 (by simp) ka_int rfl (by decide) (by decide) (by decide) (by exact hz _ (by decide)) ?_
  refine pE_putRF dX12_init_330 flX12_133 ftX12 fiX12_66 ⟨rfl, _, rfl, rfl, pT1_6 169 rfl rfl⟩ (pRt_a _) rfl (by first | assumption | rfl) ?_
  refine pE_aload_n dX12_init_333 rfl rfl ?_
  refine pE_iconst (v := nI 3) dX12_init_334 rfl ?_
  refine pE_newAT (m := 107) dX12_init_335 (by simp) ka_boolean rfl (by decide) (by decide) (by decide) (by exact hz _ (by decide)) ?_
  refine pE_putRF dX12_init_337 flX12_136 ftX12 fiX12_67 ⟨rfl, _, rfl, rfl, pT1_6 170 rfl rfl⟩ (pRt_a _) rfl (by first | assumption | rfl) ?_
  refine pE_aload_n dX12_init_340 rfl rfl ?_
  refine pE_bipush (v := nI 84) dX12_init_341 rfl ?_
  refine pE_newAT (m := 108) dX12_init_343 (by simp) ka_int rfl (by decide) (by decide) (by decide) (by exact hz _ (by decide)) ?_
  refine pE_putRF dX12_init_345 flX12_139 ftX12 fiX12_68 ⟨rfl, _, rfl, rfl, pT1_6 171 rfl rfl⟩ (pRt_a _) rfl (by first | assumption | rfl) ?_
  refine pE_vret dX12_init_348 rfl rfl ?_
  exact hq
