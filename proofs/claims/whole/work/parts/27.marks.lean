set_option maxHeartbeats 4000000 in
set_option maxRecDepth 100000 in
theorem M_X0_tell {l : Launch} {X : pX} {t g : Nat} {I : pHI} {J : pHJ} {Q : pQ} {m u : Nat} {b1 b2 v : Int32} (hc : I 47 5 = nI m) (hu : I 47 6 = nI u) (hm : m ≤ 30) (hb1 : b1 = 0 ∨ b1 = 1) (hb2 : b2 = 0 ∨ b2 = 1) (h1 : m < 30 → Q (some (.int (nI m))) (pu (pu (pu (pu (pu (pu I 48 m b1) 49 m b2) 50 m v) 51 m (nI u)) 52 m (-1)) 47 5 (nI (m + 1))) J (pR t g)) (h0 : 30 ≤ m → Q (some (.int (-1))) I J (pR t g)) : pM l X yX0_tell mX0_tell 0 [.ref 47, .int b1, .int v, .int b2] pK pK I J (pR t g) Q := by
  refine pM_of rfl (fun h => by cases h) rfl pKM (Nat.le_of_ble_eq_true rfl) ?_
  refine pE_aload_n dX0_tell_0 rfl rfl ?_
  refine pE_getI dX0_tell_1 flX0_28 rfl (Or.inl rfl) (by first | assumption | rfl) ?_
  rw [hc]
  refine pE_if_lt (tgt := 16) dX0_tell_4 (by decide) (fun h4 => ?_) (fun h4 => ?_)
  · exact absurd h4 (nI_pos (by omega))
  · refine pE_aload_n dX0_tell_7 rfl rfl ?_
    refine pE_getI dX0_tell_8 flX0_28 rfl (Or.inl rfl) (by first | assumption | rfl) ?_
    rw [hc]
    refine pE_bipush (v := nI 30) dX0_tell_11 rfl ?_
    refine pE_icmp_lt (tgt := 18) dX0_tell_13 (by decide) (fun h13 => ?_) (fun h13 => ?_)
    · have g13 := nq_lt (by omega) (by omega) h13
      refine pE_aload_n dX0_tell_18 rfl rfl ?_
      refine pE_getR dX0_tell_19 flX0_11 rfl (by first | assumption | rfl) (by first | assumption | rfl) ?_
      refine pE_aload_n dX0_tell_22 rfl rfl ?_
      refine pE_getI dX0_tell_23 flX0_28 rfl (Or.inl rfl) (by first | assumption | rfl) ?_
      rw [hc]
      refine pE_iload_n dX0_tell_26 rfl rfl ?_
      refine pE_zastoreN dX0_tell_27 (by first | assumption | rfl) (by exact hb1) (by first | assumption | omega) (by omega) ?_
      refine pE_aload_n dX0_tell_28 rfl rfl ?_
      refine pE_getR dX0_tell_29 flX0_15 rfl (by first | assumption | rfl) (by first | assumption | rfl) ?_
      refine pE_aload_n dX0_tell_32 rfl rfl ?_
      refine pE_getI dX0_tell_33 flX0_28 rfl (Or.inl rfl) (by first | assumption | rfl) ?_
      rw [pu_ne _ _ _ (by decide : (47 : Nat) ≠ 48), hc]
      refine pE_iload_n dX0_tell_36 rfl rfl ?_
      refine pE_zastoreN dX0_tell_37 (by first | assumption | rfl) (by exact hb2) (by first | assumption | omega) (by omega) ?_
      refine pE_aload_n dX0_tell_38 rfl rfl ?_
      refine pE_getR dX0_tell_39 flX0_18 rfl (by first | assumption | rfl) (by first | assumption | rfl) ?_
      refine pE_aload_n dX0_tell_42 rfl rfl ?_
      refine pE_getI dX0_tell_43 flX0_28 rfl (Or.inl rfl) (by first | assumption | rfl) ?_
      rw [pu_ne _ _ _ (by decide : (47 : Nat) ≠ 49), pu_ne _ _ _ (by decide : (47 : Nat) ≠ 48), hc]
      refine pE_iload_n dX0_tell_46 rfl rfl ?_
      refine pE_iastoreN dX0_tell_47 (by first | assumption | rfl) (by first | assumption | omega) (by omega) ?_
      refine pE_aload_n dX0_tell_48 rfl rfl ?_
      refine pE_getR dX0_tell_49 flX0_22 rfl (by first | assumption | rfl) (by first | assumption | rfl) ?_
      refine pE_aload_n dX0_tell_52 rfl rfl ?_
      refine pE_getI dX0_tell_53 flX0_28 rfl (Or.inl rfl) (by first | assumption | rfl) ?_
      rw [pu_ne _ _ _ (by decide : (47 : Nat) ≠ 50), pu_ne _ _ _ (by decide : (47 : Nat) ≠ 49), pu_ne _ _ _ (by decide : (47 : Nat) ≠ 48), hc]
      refine pE_aload_n dX0_tell_56 rfl rfl ?_
      refine pE_getI dX0_tell_57 flX0_32 rfl (Or.inl rfl) (by first | assumption | rfl) ?_
      rw [pu_ne _ _ _ (by decide : (47 : Nat) ≠ 50), pu_ne _ _ _ (by decide : (47 : Nat) ≠ 49), pu_ne _ _ _ (by decide : (47 : Nat) ≠ 48), hu]
      refine pE_iastoreN dX0_tell_60 (by first | assumption | rfl) (by first | assumption | omega) (by omega) ?_
      refine pE_aload_n dX0_tell_61 rfl rfl ?_
      refine pE_getR dX0_tell_62 flX0_25 rfl (by first | assumption | rfl) (by first | assumption | rfl) ?_
      refine pE_aload_n dX0_tell_65 rfl rfl ?_
      refine pE_getI dX0_tell_66 flX0_28 rfl (Or.inl rfl) (by first | assumption | rfl) ?_
      rw [pu_ne _ _ _ (by decide : (47 : Nat) ≠ 51), pu_ne _ _ _ (by decide : (47 : Nat) ≠ 50), pu_ne _ _ _ (by decide : (47 : Nat) ≠ 49), pu_ne _ _ _ (by decide : (47 : Nat) ≠ 48), hc]
      refine pE_iconst (v := -1) dX0_tell_69 rfl ?_
      refine pE_iastoreN dX0_tell_70 (by first | assumption | rfl) (by first | assumption | omega) (by omega) ?_
      refine pE_aload_n dX0_tell_71 rfl rfl ?_
      refine pE_dupR dX0_tell_72 ?_
      refine pE_getI dX0_tell_73 flX0_28 rfl (Or.inl rfl) (by first | assumption | rfl) ?_
      rw [pu_ne _ _ _ (by decide : (47 : Nat) ≠ 52), pu_ne _ _ _ (by decide : (47 : Nat) ≠ 51), pu_ne _ _ _ (by decide : (47 : Nat) ≠ 50), pu_ne _ _ _ (by decide : (47 : Nat) ≠ 49), pu_ne _ _ _ (by decide : (47 : Nat) ≠ 48), hc]
      refine pE_iconst (v := nI 1) dX0_tell_76 rfl ?_
      refine pE_iaddN dX0_tell_77 ?_
      refine pE_putI dX0_tell_78 flX0_28 ftX0 fiX0_5 rfl rfl (by first | assumption | rfl) ?_
      refine pE_aload_n dX0_tell_81 rfl rfl ?_
      refine pE_getI dX0_tell_82 flX0_28 rfl (Or.inl rfl) (by first | assumption | rfl) ?_
      rw [pu_at, if_pos ⟨rfl, rfl⟩]
      refine pE_iconst (v := nI 1) dX0_tell_85 rfl ?_
      refine pE_isubN dX0_tell_86 (by omega) ?_
      refine pE_iret dX0_tell_87 rfl rfl ?_
      rw [Nat.add_sub_cancel]
      exact h1 g13
    · have g13 := nq_nlt (by omega) (by omega) h13
      refine pE_iconst (v := -1) dX0_tell_16 rfl ?_
      refine pE_iret dX0_tell_17 rfl rfl ?_
      exact h0 (by omega)
set_option maxHeartbeats 4000000 in
set_option maxRecDepth 100000 in
theorem M_X12_mark {l : Launch} {X : pX} {t g : Nat} {I : pHI} {J : pHJ} {Q : pQ} {m u : Nat} {s b2 v : Int32} (hc : I 67 64 = nI m) (hu : I 67 65 = nI u) (hm : m ≤ 30) (hb2 : b2 = 0 ∨ b2 = 1) (h1 : m < 30 → Q (some (.int (nI m))) (pu (pu (pu (pu (pu (pu I 101 m s) 102 m v) 105 m b2) 103 m (nI u)) 104 m (-1)) 67 64 (nI (m + 1))) J (pR t g)) (h0 : 30 ≤ m → Q (some (.int (-1))) I J (pR t g)) : pM l X yX12_mark mX12_mark 0 [.ref 67, .int s, .int v, .int b2] pK pK I J (pR t g) Q := by
  refine pM_of rfl (fun h => by cases h) rfl pKM (Nat.le_of_ble_eq_true rfl) ?_
  refine pE_aload_n dX12_mark_0 rfl rfl ?_
  refine pE_getI dX12_mark_1 flX12_362 rfl (Or.inl rfl) (by first | assumption | rfl) ?_
  rw [hc]
  refine pE_bipush (v := nI 30) dX12_mark_4 rfl ?_
  refine pE_icmp_ne (tgt := 11) dX12_mark_6 (by decide) (fun h6 => ?_) (fun h6 => ?_)
  · have g6 := nq_ne (by omega) (by omega) h6
    refine pE_aload_n dX12_mark_11 rfl rfl ?_
    refine pE_getR dX12_mark_12 flX12_118 rfl (by first | assumption | rfl) (by first | assumption | rfl) ?_
    refine pE_aload_n dX12_mark_15 rfl rfl ?_
    refine pE_getI dX12_mark_16 flX12_362 rfl (Or.inl rfl) (by first | assumption | rfl) ?_
    rw [hc]
    refine pE_iload_n dX12_mark_19 rfl rfl ?_
    refine pE_iastoreN dX12_mark_20 (by first | assumption | rfl) (by omega) (by omega) ?_
    refine pE_aload_n dX12_mark_21 rfl rfl ?_
    refine pE_getR dX12_mark_22 flX12_121 rfl (by first | assumption | rfl) (by first | assumption | rfl) ?_
    refine pE_aload_n dX12_mark_25 rfl rfl ?_
    refine pE_getI dX12_mark_26 flX12_362 rfl (Or.inl rfl) (by first | assumption | rfl) ?_
    rw [pu_ne _ _ _ (by decide : (67 : Nat) ≠ 101), hc]
    refine pE_iload_n dX12_mark_29 rfl rfl ?_
    refine pE_iastoreN dX12_mark_30 (by first | assumption | rfl) (by omega) (by omega) ?_
    refine pE_aload_n dX12_mark_31 rfl rfl ?_
    refine pE_getR dX12_mark_32 flX12_130 rfl (by first | assumption | rfl) (by first | assumption | rfl) ?_
    refine pE_aload_n dX12_mark_35 rfl rfl ?_
    refine pE_getI dX12_mark_36 flX12_362 rfl (Or.inl rfl) (by first | assumption | rfl) ?_
    rw [pu_ne _ _ _ (by decide : (67 : Nat) ≠ 102), pu_ne _ _ _ (by decide : (67 : Nat) ≠ 101), hc]
    refine pE_iload_n dX12_mark_39 rfl rfl ?_
    refine pE_zastoreN dX12_mark_40 (by first | assumption | rfl) (by exact hb2) (by omega) (by omega) ?_
    refine pE_aload_n dX12_mark_41 rfl rfl ?_
    refine pE_getR dX12_mark_42 flX12_124 rfl (by first | assumption | rfl) (by first | assumption | rfl) ?_
    refine pE_aload_n dX12_mark_45 rfl rfl ?_
    refine pE_getI dX12_mark_46 flX12_362 rfl (Or.inl rfl) (by first | assumption | rfl) ?_
    rw [pu_ne _ _ _ (by decide : (67 : Nat) ≠ 105), pu_ne _ _ _ (by decide : (67 : Nat) ≠ 102), pu_ne _ _ _ (by decide : (67 : Nat) ≠ 101), hc]
    refine pE_aload_n dX12_mark_49 rfl rfl ?_
    refine pE_getI dX12_mark_50 flX12_485 rfl (Or.inl rfl) (by first | assumption | rfl) ?_
    rw [pu_ne _ _ _ (by decide : (67 : Nat) ≠ 105), pu_ne _ _ _ (by decide : (67 : Nat) ≠ 102), pu_ne _ _ _ (by decide : (67 : Nat) ≠ 101), hu]
    refine pE_iastoreN dX12_mark_53 (by first | assumption | rfl) (by omega) (by omega) ?_
    refine pE_aload_n dX12_mark_54 rfl rfl ?_
    refine pE_getR dX12_mark_55 flX12_127 rfl (by first | assumption | rfl) (by first | assumption | rfl) ?_
    refine pE_aload_n dX12_mark_58 rfl rfl ?_
    refine pE_getI dX12_mark_59 flX12_362 rfl (Or.inl rfl) (by first | assumption | rfl) ?_
    rw [pu_ne _ _ _ (by decide : (67 : Nat) ≠ 103), pu_ne _ _ _ (by decide : (67 : Nat) ≠ 105), pu_ne _ _ _ (by decide : (67 : Nat) ≠ 102), pu_ne _ _ _ (by decide : (67 : Nat) ≠ 101), hc]
    refine pE_iconst (v := -1) dX12_mark_62 rfl ?_
    refine pE_iastoreN dX12_mark_63 (by first | assumption | rfl) (by omega) (by omega) ?_
    refine pE_aload_n dX12_mark_64 rfl rfl ?_
    refine pE_dupR dX12_mark_65 ?_
    refine pE_getI dX12_mark_66 flX12_362 rfl (Or.inl rfl) (by first | assumption | rfl) ?_
    rw [pu_ne _ _ _ (by decide : (67 : Nat) ≠ 104), pu_ne _ _ _ (by decide : (67 : Nat) ≠ 103), pu_ne _ _ _ (by decide : (67 : Nat) ≠ 105), pu_ne _ _ _ (by decide : (67 : Nat) ≠ 102), pu_ne _ _ _ (by decide : (67 : Nat) ≠ 101), hc]
    refine pE_iconst (v := nI 1) dX12_mark_69 rfl ?_
    refine pE_iaddN dX12_mark_70 ?_
    refine pE_putI dX12_mark_71 flX12_362 ftX12 fiX12_64 rfl rfl (by first | assumption | rfl) ?_
    refine pE_aload_n dX12_mark_74 rfl rfl ?_
    refine pE_getI dX12_mark_75 flX12_362 rfl (Or.inl rfl) (by first | assumption | rfl) ?_
    rw [pu_at, if_pos ⟨rfl, rfl⟩]
    refine pE_iconst (v := nI 1) dX12_mark_78 rfl ?_
    refine pE_isubN dX12_mark_79 (by omega) ?_
    refine pE_iret dX12_mark_80 rfl rfl ?_
    rw [Nat.add_sub_cancel]
    exact h1 (by omega)
  · have g6 := nq_eq (by omega) (by omega) h6
    refine pE_iconst (v := -1) dX12_mark_9 rfl ?_
    refine pE_iret dX12_mark_10 rfl rfl ?_
    exact h0 (by omega)
set_option maxHeartbeats 4000000 in
set_option maxRecDepth 100000 in
theorem M_X12_tread {l : Launch} {X : pX} {t g : Nat} {I : pHI} {J : pHJ} {Q : pQ} {m u : Nat} {x b2 : Int32} (hc : I 67 64 = nI m) (hu : I 67 65 = nI u) (hm : m ≤ 30) (hb2 : b2 = 0 ∨ b2 = 1) (h1 : ∀ v, x = nI v → v ≤ 9 → m < 30 → Q (some (.int (nI m))) (pu (pu (pu (pu (pu (pu I 101 m (nI 1)) 102 m (nI v)) 105 m b2) 103 m (nI u)) 104 m (-1)) 67 64 (nI (m + 1))) J (pR t g)) (h0 : (30 ≤ m ∨ ∀ v, v ≤ 9 → x ≠ nI v) → Q (some (.int (-1))) I J (pR t g)) : pM l X yX12_tread mX12_tread 1 [.ref 67, .int x, .int b2] pK pK I J (pR t g) Q := by
  refine pM_of rfl (fun h => by cases h) rfl pKM (Nat.le_of_ble_eq_true rfl) ?_
  refine pE_iload_n dX12_tread_0 rfl rfl ?_
  refine pE_iconst (v := nI 0) dX12_tread_1 rfl ?_
  refine pE_bipush (v := nI 9) dX12_tread_2 rfl ?_
  refine pE_callS (d' := 0) (as := [_, _, _]) dX12_tread_4 lkX12_368 (cwX12_isIn _ _) svX12_isIn rfl rfl (Nat.le_of_ble_eq_true rfl) (by decide) pKK ?_
  refine M_X12_isIn  (fun k1 k2 => ?_) (fun k => ?_)
  · obtain ⟨v, rfl, m1, hv⟩ := in_rng (by omega) (by omega) k1 k2
    refine pE_if_eq_f (tgt := 20) dX12_tread_7 (by decide) nI_1n0 ?_
    refine pE_aload_n dX12_tread_10 rfl rfl ?_
    refine pE_iconst (v := nI 1) dX12_tread_11 rfl ?_
    refine pE_iload_n dX12_tread_12 rfl rfl ?_
    refine pE_iload_n dX12_tread_13 rfl rfl ?_
    refine pE_callV (d' := 0) (as := [_, _, _]) dX12_tread_14 lkX12_488 (cwX12_mark _ _) ivX12_mark ⟨_, rfl, rfl⟩ (by first | assumption | rfl) rfl rfl (Nat.le_of_ble_eq_true rfl) (by decide) pKK ?_
    refine M_X12_mark hc hu hm hb2 (fun h30 => ?_) (fun h30 => ?_)
    · refine pE_goto (tgt := 21) dX12_tread_17 (by decide) ?_
      refine pE_iret dX12_tread_21 rfl rfl ?_
      first | exact h0 (Or.inr (fun v hv => hno v (Nat.zero_le _) hv)) | exact h0 (Or.inl h30) | exact h1 v rfl hv h30
    · refine pE_goto (tgt := 21) dX12_tread_17 (by decide) ?_
      refine pE_iret dX12_tread_21 rfl rfl ?_
      first | exact h0 (Or.inr (fun v hv => hno v (Nat.zero_le _) hv)) | exact h0 (Or.inl h30) | exact h1 v rfl hv h30
  · have hno := out_rng (by omega) (by omega) k
    refine pE_if_eq_t (tgt := 20) dX12_tread_7 (by decide) nI_0 ?_
    refine pE_iconst (v := -1) dX12_tread_20 rfl ?_
    refine pE_iret dX12_tread_21 rfl rfl ?_
    first | exact h0 (Or.inr (fun v hv => hno v (Nat.zero_le _) hv)) | exact h0 (Or.inl h30) | exact h1 v rfl hv h30
set_option maxHeartbeats 4000000 in
set_option maxRecDepth 100000 in
theorem M_X12_chalk {l : Launch} {X : pX} {t g : Nat} {I : pHI} {J : pHJ} {Q : pQ} {m u : Nat} {x b2 : Int32} {H : pN} (hst : I 67 41 = nI (H 0)) (h20 : H 0 ≤ 20) (hc : I 67 64 = nI m) (hu : I 67 65 = nI u) (hm : m ≤ 30) (hb2 : b2 = 0 ∨ b2 = 1) (h1 : ∀ v, x = nI v → v ≤ H 0 → m < 30 → Q (some (.int (nI m))) (pu (pu (pu (pu (pu (pu I 101 m (nI 0)) 102 m (nI v)) 105 m b2) 103 m (nI u)) 104 m (-1)) 67 64 (nI (m + 1))) J (pR t g)) (h0 : (30 ≤ m ∨ ∀ v, v ≤ H 0 → x ≠ nI v) → Q (some (.int (-1))) I J (pR t g)) : pM l X yX12_chalk mX12_chalk 1 [.ref 67, .int x, .int b2] pK pK I J (pR t g) Q := by
  refine pM_of rfl (fun h => by cases h) rfl pKM (Nat.le_of_ble_eq_true rfl) ?_
  refine pE_iload_n dX12_chalk_0 rfl rfl ?_
  refine pE_iconst (v := nI 0) dX12_chalk_1 rfl ?_
  refine pE_aload_n dX12_chalk_2 rfl rfl ?_
  refine pE_getI dX12_chalk_3 flX12_82 rfl (Or.inl rfl) (by first | assumption | rfl) ?_
  rw [hst]
  refine pE_callS (d' := 0) (as := [_, _, _]) dX12_chalk_6 lkX12_368 (cwX12_isIn _ _) svX12_isIn rfl rfl (Nat.le_of_ble_eq_true rfl) (by decide) pKK ?_
  refine M_X12_isIn  (fun k1 k2 => ?_) (fun k => ?_)
  · obtain ⟨v, rfl, m1, hv⟩ := in_rng (by omega) (by omega) k1 k2
    refine pE_if_eq_f (tgt := 22) dX12_chalk_9 (by decide) nI_1n0 ?_
    refine pE_aload_n dX12_chalk_12 rfl rfl ?_
    refine pE_iconst (v := nI 0) dX12_chalk_13 rfl ?_
    refine pE_iload_n dX12_chalk_14 rfl rfl ?_
    refine pE_iload_n dX12_chalk_15 rfl rfl ?_
    refine pE_callV (d' := 0) (as := [_, _, _]) dX12_chalk_16 lkX12_488 (cwX12_mark _ _) ivX12_mark ⟨_, rfl, rfl⟩ (by first | assumption | rfl) rfl rfl (Nat.le_of_ble_eq_true rfl) (by decide) pKK ?_
    refine M_X12_mark hc hu hm hb2 (fun h30 => ?_) (fun h30 => ?_)
    · refine pE_goto (tgt := 23) dX12_chalk_19 (by decide) ?_
      refine pE_iret dX12_chalk_23 rfl rfl ?_
      first | exact h0 (Or.inr (fun v hv => hno v (Nat.zero_le _) hv)) | exact h0 (Or.inl h30) | exact h1 v rfl hv h30
    · refine pE_goto (tgt := 23) dX12_chalk_19 (by decide) ?_
      refine pE_iret dX12_chalk_23 rfl rfl ?_
      first | exact h0 (Or.inr (fun v hv => hno v (Nat.zero_le _) hv)) | exact h0 (Or.inl h30) | exact h1 v rfl hv h30
  · have hno := out_rng (by omega) (by omega) k
    refine pE_if_eq_t (tgt := 22) dX12_chalk_9 (by decide) nI_0 ?_
    refine pE_iconst (v := -1) dX12_chalk_22 rfl ?_
    refine pE_iret dX12_chalk_23 rfl rfl ?_
    first | exact h0 (Or.inr (fun v hv => hno v (Nat.zero_le _) hv)) | exact h0 (Or.inl h30) | exact h1 v rfl hv h30
set_option maxHeartbeats 4000000 in
set_option maxRecDepth 100000 in
theorem M_X11_chalk {l : Launch} {X : pX} {t g : Nat} {I : pHI} {J : pHJ} {Q : pQ} {m u : Nat} {x b2 : Int32} {H : pN} (ht : isH t) (hst : I t 0 = nI (H 0)) (h20 : H 0 ≤ 20) (hc : I 47 5 = nI m) (hu : I 47 6 = nI u) (hm : m ≤ 30) (hb2 : b2 = 0 ∨ b2 = 1) (h1 : ∀ v, x = nI v → v ≤ H 0 → m < 30 → Q (some (.int (nI m))) (pu (pu (pu (pu (pu (pu I 48 m (nI 1)) 49 m b2) 50 m (nI v)) 51 m (nI u)) 52 m (-1)) 47 5 (nI (m + 1))) J (pR t g)) (h0 : (30 ≤ m ∨ ∀ v, v ≤ H 0 → x ≠ nI v) → Q (some (.int (-1))) I J (pR t g)) : pM l X yX11_chalk mX11_chalk 1 [.ref 0, .int x, .int b2] pK pK I J (pR t g) Q := by
  obtain ⟨fHFht0, fHFht1, fHFht2, fHFht3, fHFht4, fHFht5, fHFht6, fHFht7, fHFht8, fHFht9, fHFht10, fHFht11, fHFht12, fHFht13, fHFht14, fHFht15, fHFht16, fHFht17, fHFht18, fHFht19, fHFht20, fHFht21, fHFht22, fHFht23, fHFht24, fHFht25, fHFht26⟩ := HF t g ht
  refine pM_of rfl (fun h => by cases h) rfl pKM (Nat.le_of_ble_eq_true rfl) ?_
  refine pE_aload_n dX11_chalk_0 rfl rfl ?_
  refine pE_getR dX11_chalk_1 flX11_29 rfl (by first | assumption | rfl) (by first | assumption | rfl) ?_
  refine pE_iload_n dX11_chalk_4 rfl rfl ?_
  refine pE_callV (d' := 0) (as := [_]) dX11_chalk_5 lkX11_299 (cwX2_hasStorey _ _) ivX2_hasStorey ⟨_, rfl, rfl⟩ (by first | assumption | rfl) rfl rfl (Nat.le_of_ble_eq_true rfl) (by decide) pKK ?_
  refine M_X2_hasStorey (H := H) ht hst h20 (fun v e hv => ?_) (fun hno => ?_)
  · subst e
    refine pE_if_ne_t (tgt := 13) dX11_chalk_8 (by decide) nI_1n0 ?_
    refine pE_aload_n dX11_chalk_13 rfl rfl ?_
    refine pE_getR dX11_chalk_14 flX11_63 rfl (by first | assumption | rfl) (by first | assumption | rfl) ?_
    refine pE_iconst (v := nI 1) dX11_chalk_17 rfl ?_
    refine pE_iload_n dX11_chalk_18 rfl rfl ?_
    refine pE_iload_n dX11_chalk_19 rfl rfl ?_
    refine pE_callV (d' := 0) (as := [_, _, _]) dX11_chalk_20 lkX11_314 (cwX0_tell _ _) ivX0_tell ⟨_, rfl, rfl⟩ (by first | assumption | rfl) rfl rfl (Nat.le_of_ble_eq_true rfl) (by decide) pKK ?_
    refine M_X0_tell hc hu hm (Or.inr nI_1') hb2 (fun h30 => ?_) (fun h30 => ?_)
    · refine pE_iret dX11_chalk_23 rfl rfl ?_
      first | exact h0 (Or.inr hno) | exact h0 (Or.inl h30) | exact h1 v rfl hv h30
    · refine pE_iret dX11_chalk_23 rfl rfl ?_
      first | exact h0 (Or.inr hno) | exact h0 (Or.inl h30) | exact h1 v rfl hv h30
  · refine pE_if_ne_f (tgt := 13) dX11_chalk_8 (by decide) nI_0 ?_
    refine pE_iconst (v := -1) dX11_chalk_11 rfl ?_
    refine pE_iret dX11_chalk_12 rfl rfl ?_
    first | exact h0 (Or.inr hno) | exact h0 (Or.inl h30) | exact h1 v rfl hv h30
set_option maxHeartbeats 4000000 in
set_option maxRecDepth 100000 in
theorem M_X11_tread {l : Launch} {X : pX} {t g : Nat} {I : pHI} {J : pHJ} {Q : pQ} {m u : Nat} {x b2 : Int32} (hc : I 47 5 = nI m) (hu : I 47 6 = nI u) (hm : m ≤ 30) (hb2 : b2 = 0 ∨ b2 = 1) (h1 : ∀ v, x = nI v → v ≤ 9 → m < 30 → Q (some (.int (nI m))) (pu (pu (pu (pu (pu (pu I 48 m (nI 0)) 49 m b2) 50 m (nI v)) 51 m (nI u)) 52 m (-1)) 47 5 (nI (m + 1))) J (pR t g)) (h0 : (30 ≤ m ∨ ∀ v, v ≤ 9 → x ≠ nI v) → Q (some (.int (-1))) I J (pR t g)) : pM l X yX11_tread mX11_tread 1 [.ref 0, .int x, .int b2] pK pK I J (pR t g) Q := by
  refine pM_of rfl (fun h => by cases h) rfl pKM (Nat.le_of_ble_eq_true rfl) ?_
  rcases nI_or x with hx | ⟨v, hv, rfl⟩
  · refine pE_iload_n dX11_tread_0 rfl rfl ?_
    refine pE_if_lt (tgt := 10) dX11_tread_1 (by decide) (fun h1' => ?_) (fun h1' => ?_)
    · refine pE_iconst (v := -1) dX11_tread_10 rfl ?_
      refine pE_iret dX11_tread_11 rfl rfl ?_
      exact h0 (Or.inr (fun v hv e => by rw [e] at hx; exact absurd hx (nI_pos (by omega))))
    · exact absurd hx h1'
  · refine pE_iload_n dX11_tread_0 rfl rfl ?_
    refine pE_if_lt (tgt := 10) dX11_tread_1 (by decide) (fun h1' => ?_) (fun h1' => ?_)
    · exact absurd h1' (nI_pos (by omega))
    · refine pE_iload_n dX11_tread_4 rfl rfl ?_
      refine pE_bipush (v := nI 9) dX11_tread_5 rfl ?_
      refine pE_icmp_le (tgt := 12) dX11_tread_7 (by decide) (fun h7 => ?_) (fun h7 => ?_)
      · have g7 := nq_le (by omega) (by omega) h7
        refine pE_aload_n dX11_tread_12 rfl rfl ?_
        refine pE_getR dX11_tread_13 flX11_63 rfl (by first | assumption | rfl) (by first | assumption | rfl) ?_
        refine pE_iconst (v := nI 0) dX11_tread_16 rfl ?_
        refine pE_iload_n dX11_tread_17 rfl rfl ?_
        refine pE_iload_n dX11_tread_18 rfl rfl ?_
        refine pE_callV (d' := 0) (as := [_, _, _]) dX11_tread_19 lkX11_314 (cwX0_tell _ _) ivX0_tell ⟨_, rfl, rfl⟩ (by first | assumption | rfl) rfl rfl (Nat.le_of_ble_eq_true rfl) (by decide) pKK ?_
        refine M_X0_tell hc hu hm (Or.inl nI_0) hb2 (fun h30 => ?_) (fun h30 => ?_)
        · refine pE_iret dX11_tread_22 rfl rfl ?_
          first | exact h0 (Or.inr (fun i hi e => by have := nq_eq hv (by omega) e; omega)) | exact h0 (Or.inl h30) | exact h1 v rfl (by omega) h30
        · refine pE_iret dX11_tread_22 rfl rfl ?_
          first | exact h0 (Or.inr (fun i hi e => by have := nq_eq hv (by omega) e; omega)) | exact h0 (Or.inl h30) | exact h1 v rfl (by omega) h30
      · have g7 := nq_nle (by omega) (by omega) h7
        refine pE_iconst (v := -1) dX11_tread_10 rfl ?_
        refine pE_iret dX11_tread_11 rfl rfl ?_
        first | exact h0 (Or.inr (fun i hi e => by have := nq_eq hv (by omega) e; omega)) | exact h0 (Or.inl h30) | exact h1 v rfl (by omega) h30
set_option maxHeartbeats 4000000 in
set_option maxRecDepth 100000 in
theorem M_X11_fault {l : Launch} {X : pX} {t g : Nat} {I : pHI} {J : pHJ} {Q : pQ} {x : Int32} (hq : Q (some (.int (if x = 0 then I 2 6 else if x = nI 1 then I 2 7 else -1))) I J (pR t g)) : pM l X yX11_fault mX11_fault 0 [.ref 0, .int x] pK pK I J (pR t g) Q := by
  refine pM_of rfl (fun h => by cases h) rfl pKM (Nat.le_of_ble_eq_true rfl) ?_
  refine pE_iload_n dX11_fault_0 rfl rfl ?_
  refine pE_if_ne (tgt := 12) dX11_fault_1 (by decide) (fun h1 => ?_) (fun h1 => ?_)
  · refine pE_iload_n dX11_fault_12 rfl rfl ?_
    refine pE_iconst (v := nI 1) dX11_fault_13 rfl ?_
    refine pE_icmp_ne (tgt := 27) dX11_fault_14 (by decide) (fun h14 => ?_) (fun h14 => ?_)
    · refine pE_iconst (v := -1) dX11_fault_27 rfl ?_
      refine pE_iret dX11_fault_28 rfl rfl ?_
      refine cgQ ?_ hq
      simp [*, nI_1n0]
    · refine pE_aload_n dX11_fault_17 rfl rfl ?_
      refine pE_getR dX11_fault_18 flX11_22 rfl (by first | assumption | rfl) (by first | assumption | rfl) ?_
      refine pE_getI dX11_fault_21 flX11_116 rfl (Or.inl rfl) (by first | assumption | rfl) ?_
      refine pE_goto (tgt := 28) dX11_fault_24 (by decide) ?_
      refine pE_iret dX11_fault_28 rfl rfl ?_
      refine cgQ ?_ hq
      simp [*, nI_1n0]
  · refine pE_aload_n dX11_fault_4 rfl rfl ?_
    refine pE_getR dX11_fault_5 flX11_22 rfl (by first | assumption | rfl) (by first | assumption | rfl) ?_
    refine pE_getI dX11_fault_8 flX11_113 rfl (Or.inl rfl) (by first | assumption | rfl) ?_
    refine pE_iret dX11_fault_11 rfl rfl ?_
    refine cgQ ?_ hq
    simp [*, nI_1n0]
set_option maxHeartbeats 4000000 in
set_option maxRecDepth 100000 in
theorem M_X12_fault {l : Launch} {X : pX} {t g : Nat} {I : pHI} {J : pHJ} {Q : pQ} {x : Int32} (hq : Q (some (.int (if x = 0 then I 67 2 else if x = nI 1 then I 67 3 else -1))) I J (pR t g)) : pM l X yX12_fault mX12_fault 0 [.ref 67, .int x] pK pK I J (pR t g) Q := by
  refine pM_of rfl (fun h => by cases h) rfl pKM (Nat.le_of_ble_eq_true rfl) ?_
  refine pE_iload_n dX12_fault_0 rfl rfl ?_
  refine pE_if_ne (tgt := 11) dX12_fault_1 (by decide) (fun h1 => ?_) (fun h1 => ?_)
  · refine pE_iload_n dX12_fault_11 rfl rfl ?_
    refine pE_iconst (v := nI 1) dX12_fault_12 rfl ?_
    refine pE_icmp_ne (tgt := 23) dX12_fault_13 (by decide) (fun h13 => ?_) (fun h13 => ?_)
    · refine pE_iconst (v := -1) dX12_fault_23 rfl ?_
      refine pE_iret dX12_fault_24 rfl rfl ?_
      refine cgQ ?_ hq
      simp [*, nI_1n0]
    · refine pE_aload_n dX12_fault_16 rfl rfl ?_
      refine pE_getI dX12_fault_17 flX12_13 rfl (Or.inl rfl) (by first | assumption | rfl) ?_
      refine pE_goto (tgt := 24) dX12_fault_20 (by decide) ?_
      refine pE_iret dX12_fault_24 rfl rfl ?_
      refine cgQ ?_ hq
      simp [*, nI_1n0]
  · refine pE_aload_n dX12_fault_4 rfl rfl ?_
    refine pE_getI dX12_fault_5 flX12_182 rfl (Or.inl rfl) (by first | assumption | rfl) ?_
    refine pE_goto (tgt := 24) dX12_fault_8 (by decide) ?_
    refine pE_iret dX12_fault_24 rfl rfl ?_
    refine cgQ ?_ hq
    simp [*, nI_1n0]
set_option maxHeartbeats 4000000 in
set_option maxRecDepth 100000 in
theorem M_X11_end {l : Launch} {X : pX} {t g : Nat} {I : pHI} {J : pHJ} {Q : pQ} {x : Int32} (h1 : ¬ x < 0 → ¬ I 0 1 < x → Q (some (.int x)) (pu I 0 1 x) J (pR t g)) (h0 : (x < 0 ∨ I 0 1 < x) → Q (some (.int (-1))) I J (pR t g)) : pM l X yX11_end mX11_end 0 [.ref 0, .int x] pK pK I J (pR t g) Q := by
  refine pM_of rfl (fun h => by cases h) rfl pKM (Nat.le_of_ble_eq_true rfl) ?_
  refine pE_iload_n dX11_end_0 rfl rfl ?_
  refine pE_if_lt (tgt := 12) dX11_end_1 (by decide) (fun k1 => ?_) (fun k1 => ?_)
  · refine pE_iconst (v := -1) dX11_end_12 rfl ?_
    refine pE_iret dX11_end_13 rfl rfl ?_
    first | exact h0 (Or.inl k1) | exact h0 (Or.inr (Int32.not_le.mp k2)) | exact h1 k1 (Int32.not_lt.mpr k2)
  · refine pE_iload_n dX11_end_4 rfl rfl ?_
    refine pE_aload_n dX11_end_5 rfl rfl ?_
    refine pE_getI dX11_end_6 flX11_13 rfl (Or.inl rfl) (by first | assumption | rfl) ?_
    refine pE_icmp_le (tgt := 14) dX11_end_9 (by decide) (fun k2 => ?_) (fun k2 => ?_)
    · refine pE_aload_n dX11_end_14 rfl rfl ?_
      refine pE_iload_n dX11_end_15 rfl rfl ?_
      refine pE_putI dX11_end_16 flX11_13 ftX11 fiX11_1 rfl rfl (by first | assumption | rfl) ?_
      refine pE_iload_n dX11_end_19 rfl rfl ?_
      refine pE_iret dX11_end_20 rfl rfl ?_
      first | exact h0 (Or.inl k1) | exact h0 (Or.inr (Int32.not_le.mp k2)) | exact h1 k1 (Int32.not_lt.mpr k2)
    · refine pE_iconst (v := -1) dX11_end_12 rfl ?_
      refine pE_iret dX11_end_13 rfl rfl ?_
      first | exact h0 (Or.inl k1) | exact h0 (Or.inr (Int32.not_le.mp k2)) | exact h1 k1 (Int32.not_lt.mpr k2)
set_option maxHeartbeats 4000000 in
set_option maxRecDepth 100000 in
theorem M_X12_end {l : Launch} {X : pX} {t g : Nat} {I : pHI} {J : pHJ} {Q : pQ} {x : Int32} (h1 : ¬ x < 0 → ¬ I 67 1 < x → Q (some (.int x)) (pu I 67 1 x) J (pR t g)) (h0 : (x < 0 ∨ I 67 1 < x) → Q (some (.int (-1))) I J (pR t g)) : pM l X yX12_end mX12_end 0 [.ref 67, .int x] pK pK I J (pR t g) Q := by
  refine pM_of rfl (fun h => by cases h) rfl pKM (Nat.le_of_ble_eq_true rfl) ?_
  refine pE_iload_n dX12_end_0 rfl rfl ?_
  refine pE_if_lt (tgt := 12) dX12_end_1 (by decide) (fun k1 => ?_) (fun k1 => ?_)
  · refine pE_iconst (v := -1) dX12_end_12 rfl ?_
    refine pE_iret dX12_end_13 rfl rfl ?_
    first | exact h0 (Or.inl k1) | exact h0 (Or.inr (Int32.not_le.mp k2)) | exact h1 k1 (Int32.not_lt.mpr k2)
  · refine pE_iload_n dX12_end_4 rfl rfl ?_
    refine pE_aload_n dX12_end_5 rfl rfl ?_
    refine pE_getI dX12_end_6 flX12_142 rfl (Or.inl rfl) (by first | assumption | rfl) ?_
    refine pE_icmp_le (tgt := 14) dX12_end_9 (by decide) (fun k2 => ?_) (fun k2 => ?_)
    · refine pE_aload_n dX12_end_14 rfl rfl ?_
      refine pE_iload_n dX12_end_15 rfl rfl ?_
      refine pE_putI dX12_end_16 flX12_142 ftX12 fiX12_1 rfl rfl (by first | assumption | rfl) ?_
      refine pE_iload_n dX12_end_19 rfl rfl ?_
      refine pE_iret dX12_end_20 rfl rfl ?_
      first | exact h0 (Or.inl k1) | exact h0 (Or.inr (Int32.not_le.mp k2)) | exact h1 k1 (Int32.not_lt.mpr k2)
    · refine pE_iconst (v := -1) dX12_end_12 rfl ?_
      refine pE_iret dX12_end_13 rfl rfl ?_
      first | exact h0 (Or.inl k1) | exact h0 (Or.inr (Int32.not_le.mp k2)) | exact h1 k1 (Int32.not_lt.mpr k2)
set_option maxHeartbeats 4000000 in
set_option maxRecDepth 100000 in
theorem M_X0_takeOut {l : Launch} {X : pX} {t g : Nat} {I : pHI} {J : pHJ} {Q : pQ} {m u : Nat} {x : Int32} (hc : I 47 5 = nI m) (hu : I 47 6 = nI u) (hm : m ≤ 30) (h1 : ∀ i, x = nI i → i < m → I 52 i = -1 → Q (some (.int (nI 1))) (pu I 52 i (nI u)) J (pR t g)) (h0 : (∀ i, i < m → x = nI i → I 52 i ≠ -1) → Q (some (.int (nI 0))) I J (pR t g)) : pM l X yX0_takeOut mX0_takeOut 0 [.ref 47, .int x] pK pK I J (pR t g) Q := by
  refine pM_of rfl (fun h => by cases h) rfl pKM (Nat.le_of_ble_eq_true rfl) ?_
  rcases nI_or x with hx | ⟨i, hi, rfl⟩
  · refine pE_iload_n dX0_takeOut_0 rfl rfl ?_
    refine pE_if_lt (tgt := 28) dX0_takeOut_1 (by decide) (fun h1' => ?_) (fun h1' => ?_)
    · refine pE_iconst (v := nI 0) dX0_takeOut_28 rfl ?_
      refine pE_zret dX0_takeOut_29 rfl (by first | exact Or.inl nI_0 | exact Or.inr nI_1' | assumption) rfl ?_
      exact h0 (fun i hi e => by rw [e] at hx; exact absurd hx (nI_pos (by omega)))
    · exact absurd hx h1'
  · refine pE_iload_n dX0_takeOut_0 rfl rfl ?_
    refine pE_if_lt (tgt := 28) dX0_takeOut_1 (by decide) (fun h1' => ?_) (fun h1' => ?_)
    · exact absurd h1' (nI_pos (by omega))
    · refine pE_iload_n dX0_takeOut_4 rfl rfl ?_
      refine pE_aload_n dX0_takeOut_5 rfl rfl ?_
      refine pE_getI dX0_takeOut_6 flX0_28 rfl (Or.inl rfl) (by first | assumption | rfl) ?_
      rw [hc]
      refine pE_icmp_ge (tgt := 28) dX0_takeOut_9 (by decide) (fun h9 => ?_) (fun h9 => ?_)
      · have g9 := nq_le (by omega) (by omega) h9
        refine pE_iconst (v := nI 0) dX0_takeOut_28 rfl ?_
        refine pE_zret dX0_takeOut_29 rfl (by first | exact Or.inl nI_0 | exact Or.inr nI_1' | assumption) rfl ?_
        first | exact h0 (fun j hj e => by have := nq_eq hi (by omega) e; omega) | exact h1 i rfl (by omega) k25 | exact h0 (fun j hj e => by have := nq_eq hi (by omega) e; subst this; exact k25)
      · have g9 := nq_nle (by omega) (by omega) h9
        refine pE_iload_n dX0_takeOut_12 rfl rfl ?_
        refine pE_bipush (v := nI 30) dX0_takeOut_13 rfl ?_
        refine pE_icmp_ge (tgt := 28) dX0_takeOut_15 (by decide) (fun h15 => ?_) (fun h15 => ?_)
        · have g15 := nq_le (by omega) (by omega) h15
          refine pE_iconst (v := nI 0) dX0_takeOut_28 rfl ?_
          refine pE_zret dX0_takeOut_29 rfl (by first | exact Or.inl nI_0 | exact Or.inr nI_1' | assumption) rfl ?_
          first | exact h0 (fun j hj e => by have := nq_eq hi (by omega) e; omega) | exact h1 i rfl (by omega) k25 | exact h0 (fun j hj e => by have := nq_eq hi (by omega) e; subst this; exact k25)
        · have g15 := nq_nle (by omega) (by omega) h15
          refine pE_aload_n dX0_takeOut_18 rfl rfl ?_
          refine pE_getR dX0_takeOut_19 flX0_25 rfl (by first | assumption | rfl) (by first | assumption | rfl) ?_
          refine pE_iload_n dX0_takeOut_22 rfl rfl ?_
          refine pE_ialoadN dX0_takeOut_23 (by first | assumption | rfl) (by first | assumption | omega) (by omega) ?_
          refine pE_iconst (v := -1) dX0_takeOut_24 rfl ?_
          refine pE_icmp_eq (tgt := 30) dX0_takeOut_25 (by decide) (fun k25 => ?_) (fun k25 => ?_)
          · refine pE_aload_n dX0_takeOut_30 rfl rfl ?_
            refine pE_getR dX0_takeOut_31 flX0_25 rfl (by first | assumption | rfl) (by first | assumption | rfl) ?_
            refine pE_iload_n dX0_takeOut_34 rfl rfl ?_
            refine pE_aload_n dX0_takeOut_35 rfl rfl ?_
            refine pE_getI dX0_takeOut_36 flX0_32 rfl (Or.inl rfl) (by first | assumption | rfl) ?_
            rw [hu]
            refine pE_iastoreN dX0_takeOut_39 (by first | assumption | rfl) (by first | assumption | omega) (by omega) ?_
            refine pE_iconst (v := nI 1) dX0_takeOut_40 rfl ?_
            refine pE_zret dX0_takeOut_41 rfl (by first | exact Or.inl nI_0 | exact Or.inr nI_1' | assumption) rfl ?_
            first | exact h0 (fun j hj e => by have := nq_eq hi (by omega) e; omega) | exact h1 i rfl (by omega) k25 | exact h0 (fun j hj e => by have := nq_eq hi (by omega) e; subst this; exact k25)
          · refine pE_iconst (v := nI 0) dX0_takeOut_28 rfl ?_
            refine pE_zret dX0_takeOut_29 rfl (by first | exact Or.inl nI_0 | exact Or.inr nI_1' | assumption) rfl ?_
            first | exact h0 (fun j hj e => by have := nq_eq hi (by omega) e; omega) | exact h1 i rfl (by omega) k25 | exact h0 (fun j hj e => by have := nq_eq hi (by omega) e; subst this; exact k25)
set_option maxHeartbeats 4000000 in
set_option maxRecDepth 100000 in
theorem M_X11_untell {l : Launch} {X : pX} {t g : Nat} {I : pHI} {J : pHJ} {Q : pQ} {m u : Nat} {x : Int32} (hc : I 47 5 = nI m) (hu : I 47 6 = nI u) (hm : m ≤ 30) (h1 : ∀ i, x = nI i → i < m → I 52 i = -1 → Q (some (.int (nI 1))) (pu I 52 i (nI u)) J (pR t g)) (h0 : (∀ i, i < m → x = nI i → I 52 i ≠ -1) → Q (some (.int (nI 0))) I J (pR t g)) : pM l X yX11_untell mX11_untell 1 [.ref 0, .int x] pK pK I J (pR t g) Q := by
  refine pM_of rfl (fun h => by cases h) rfl pKM (Nat.le_of_ble_eq_true rfl) ?_
  refine pE_aload_n dX11_untell_0 rfl rfl ?_
  refine pE_getR dX11_untell_1 flX11_63 rfl (by first | assumption | rfl) (by first | assumption | rfl) ?_
  refine pE_iload_n dX11_untell_4 rfl rfl ?_
  refine pE_callV (d' := 0) (as := [_]) dX11_untell_5 lkX11_318 (cwX0_takeOut _ _) ivX0_takeOut ⟨_, rfl, rfl⟩ (by first | assumption | rfl) rfl rfl (Nat.le_of_ble_eq_true rfl) (by decide) pKK ?_
  refine M_X0_takeOut hc hu hm (fun i e hi hI => ?_) (fun hno => ?_)
  · refine pE_zret dX11_untell_8 rfl (by first | exact Or.inl nI_0 | exact Or.inr nI_1' | assumption) rfl ?_
    first | exact h1 i e hi hI | exact h0 hno
  · refine pE_zret dX11_untell_8 rfl (by first | exact Or.inl nI_0 | exact Or.inr nI_1' | assumption) rfl ?_
    first | exact h1 i e hi hI | exact h0 hno
set_option maxHeartbeats 4000000 in
set_option maxRecDepth 100000 in
theorem M_X12_untell {l : Launch} {X : pX} {t g : Nat} {I : pHI} {J : pHJ} {Q : pQ} {m u : Nat} {x : Int32} (hc : I 67 64 = nI m) (hu : I 67 65 = nI u) (hm : m ≤ 30) (hun : ∀ i, i < m → I 104 i = -1 ∨ ∃ u0, u0 < 2 ^ 31 ∧ I 104 i = nI u0) (h1 : ∀ i, x = nI i → i < m → I 104 i = -1 → Q (some (.int (nI 1))) (pu I 104 i (nI u)) J (pR t g)) (h0 : (∀ i, i < m → x = nI i → I 104 i ≠ -1) → Q (some (.int (nI 0))) I J (pR t g)) : pM l X yX12_untell mX12_untell 1 [.ref 67, .int x] pK pK I J (pR t g) Q := by
  refine pM_of rfl (fun h => by cases h) rfl pKM (Nat.le_of_ble_eq_true rfl) ?_
  refine pE_iload_n dX12_untell_0 rfl rfl ?_
  refine pE_iconst (v := nI 0) dX12_untell_1 rfl ?_
  refine pE_aload_n dX12_untell_2 rfl rfl ?_
  refine pE_getI dX12_untell_3 flX12_362 rfl (Or.inl rfl) (by first | assumption | rfl) ?_
  rw [hc]
  refine pE_iconst (v := nI 1) dX12_untell_6 rfl ?_
  refine pE_isub dX12_untell_7 ?_
  refine pE_callS (d' := 0) (as := [_, _, _]) dX12_untell_8 lkX12_368 (cwX12_isIn _ _) svX12_isIn rfl rfl (Nat.le_of_ble_eq_true rfl) (by decide) pKK ?_
  refine M_X12_isIn  (fun k1 k2 => ?_) (fun k => ?_)
  · obtain ⟨i, rfl, m1, hi⟩ := in_m1 (by omega) k1 k2
    refine pE_if_eq_f (tgt := 23) dX12_untell_11 (by decide) nI_1n0 ?_
    refine pE_aload_n dX12_untell_14 rfl rfl ?_
    refine pE_getR dX12_untell_15 flX12_127 rfl (by first | assumption | rfl) (by first | assumption | rfl) ?_
    refine pE_iload_n dX12_untell_18 rfl rfl ?_
    refine pE_ialoadN dX12_untell_19 (by first | assumption | rfl) (by omega) (by omega) ?_
    refine pE_if_lt (tgt := 25) dX12_untell_20 (by decide) (fun k20 => ?_) (fun k20 => ?_)
    · refine pE_aload_n dX12_untell_25 rfl rfl ?_
      refine pE_getR dX12_untell_26 flX12_127 rfl (by first | assumption | rfl) (by first | assumption | rfl) ?_
      refine pE_iload_n dX12_untell_29 rfl rfl ?_
      refine pE_aload_n dX12_untell_30 rfl rfl ?_
      refine pE_getI dX12_untell_31 flX12_485 rfl (Or.inl rfl) (by first | assumption | rfl) ?_
      rw [hu]
      refine pE_iastoreN dX12_untell_34 (by first | assumption | rfl) (by omega) (by omega) ?_
      refine pE_iconst (v := nI 1) dX12_untell_35 rfl ?_
      refine pE_zret dX12_untell_36 rfl (by first | exact Or.inl nI_0 | exact Or.inr nI_1' | assumption) rfl ?_
      first | exact h0 (fun i hi e => absurd e (hno i hi)) | exact h0 (fun j hj e => by have e2 := nq_eq (by omega) (by omega) e; subst e2; rcases hun _ hi with q | ⟨u0, q1, q2⟩; exact absurd (q ▸ (by decide +kernel : (-1 : Int32) < 0)) k20; rw [q2]; exact nI_m1n q1) | (rcases hun _ hi with q | ⟨u0, q1, q2⟩; exact h1 i rfl hi q; exact absurd (q2 ▸ k20) (nI_pos q1))
    · refine pE_iconst (v := nI 0) dX12_untell_23 rfl ?_
      refine pE_zret dX12_untell_24 rfl (by first | exact Or.inl nI_0 | exact Or.inr nI_1' | assumption) rfl ?_
      first | exact h0 (fun i hi e => absurd e (hno i hi)) | exact h0 (fun j hj e => by have e2 := nq_eq (by omega) (by omega) e; subst e2; rcases hun _ hi with q | ⟨u0, q1, q2⟩; exact absurd (q ▸ (by decide +kernel : (-1 : Int32) < 0)) k20; rw [q2]; exact nI_m1n q1) | (rcases hun _ hi with q | ⟨u0, q1, q2⟩; exact h1 i rfl hi q; exact absurd (q2 ▸ k20) (nI_pos q1))
  · have hno := out_m1 (by omega) k
    refine pE_if_eq_t (tgt := 23) dX12_untell_11 (by decide) nI_0 ?_
    refine pE_iconst (v := nI 0) dX12_untell_23 rfl ?_
    refine pE_zret dX12_untell_24 rfl (by first | exact Or.inl nI_0 | exact Or.inr nI_1' | assumption) rfl ?_
    first | exact h0 (fun i hi e => absurd e (hno i hi)) | exact h0 (fun j hj e => by have e2 := nq_eq (by omega) (by omega) e; subst e2; rcases hun _ hi with q | ⟨u0, q1, q2⟩; exact absurd (q ▸ (by decide +kernel : (-1 : Int32) < 0)) k20; rw [q2]; exact nI_m1n q1) | (rcases hun _ hi with q | ⟨u0, q1, q2⟩; exact h1 i rfl hi q; exact absurd (q2 ▸ k20) (nI_pos q1))
