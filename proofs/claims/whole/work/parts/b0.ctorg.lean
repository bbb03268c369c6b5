def HFk (K : List pS) (R : pHR) (o : Nat) : Prop := K[o]? = some (.inl 2) ∧ R o 3 = some (o + 1) ∧ R o 4 = some (o + 2) ∧ R o 5 = some (o + 3) ∧ R o 6 = some (o + 4) ∧ R o 7 = some (o + 5) ∧ R o 8 = some (o + 6) ∧ R o 9 = some (o + 10) ∧ K[o + 1]? = some (.inr (0, 8)) ∧ K[o + 2]? = some (.inr (0, 8)) ∧ K[o + 3]? = some (.inr (0, 8)) ∧ K[o + 4]? = some (.inr (0, 8)) ∧ K[o + 5]? = some (.inr (0, 8)) ∧ K[o + 6]? = some (.inl 1) ∧ R (o + 6) 0 = some (o + 7) ∧ R (o + 6) 1 = some (o + 8) ∧ R (o + 6) 3 = some (o + 9) ∧ K[o + 7]? = some (.inr (0, 300)) ∧ K[o + 8]? = some (.inr (0, 300)) ∧ K[o + 9]? = some (.inr (0, 32)) ∧ K[o + 10]? = some (.inl 1) ∧ R (o + 10) 0 = some (o + 11) ∧ R (o + 10) 1 = some (o + 12) ∧ R (o + 10) 3 = some (o + 13) ∧ K[o + 11]? = some (.inr (0, 300)) ∧ K[o + 12]? = some (.inr (0, 300)) ∧ K[o + 13]? = some (.inr (0, 32))
def SFk (K : List pS) (R : pHR) (o : Nat) : Prop := K[o]? = some (.inl 9) ∧ R o 0 = some (o + 1) ∧ R o 1 = some (o + 2) ∧ R o 2 = some (o + 3) ∧ K[o + 1]? = some (.inr (0, 8)) ∧ K[o + 2]? = some (.inr (0, 8)) ∧ K[o + 3]? = some (.inr (0, 8))
def FFk (K : List pS) (R : pHR) (o : Nat) : Prop := K[o]? = some (.inl 1) ∧ R o 0 = some (o + 1) ∧ R o 1 = some (o + 2) ∧ R o 3 = some (o + 3) ∧ K[o + 1]? = some (.inr (0, 300)) ∧ K[o + 2]? = some (.inr (0, 300)) ∧ K[o + 3]? = some (.inr (0, 32))
theorem HFk.c {K : List pS} {R : pHR} {o : Nat} (h : HFk K R o) : FFk K R (o + 6) := by
  obtain ⟨a0, a1, a2, a3, a4, a5, a6, a7, a8, a9, a10, a11, a12, a13, a14, a15, a16, a17, a18, a19, a20, a21, a22, a23, a24, a25, a26⟩ := h
  exact ⟨a13, a14, a15, a16, a17, a18, a19⟩
theorem HFk.m {K : List pS} {R : pHR} {o : Nat} (h : HFk K R o) : FFk K R (o + 10) := by
  obtain ⟨a0, a1, a2, a3, a4, a5, a6, a7, a8, a9, a10, a11, a12, a13, a14, a15, a16, a17, a18, a19, a20, a21, a22, a23, a24, a25, a26⟩ := h
  exact ⟨a20, a21, a22, a23, a24, a25, a26⟩
set_option maxHeartbeats 400000 in
set_option maxRecDepth 100000 in
theorem GM_X1_addStepA {l : Launch} {X : pX} {K : List pS} {R : pHR} {I : pHI} {J : pHJ} {Q : pQ} {f j : Nat} {a b : Int32} (hKl : K.length ≤ 1000) (hFF : FFk K R f) (hf : isF f) (hs : I f 2 = nI j) (hj : j < 300) (hq : Q none (pu (pu (pu I (f + 1) j a) (f + 2) j b) f 2 (nI (j + 1))) J R) : pM l X yX1_addStep mX1_addStep 0 [.ref f, .int a, .int b] K K I J R Q := by
  obtain ⟨fFf0, fFf1, fFf2, fFf3, fFf4, fFf5, fFf6⟩ := id hFF
  have hfb := isF_b hf
  refine pM_of rfl (fun h => by cases h) rfl ⟨Nat.le_refl _, Nat.le_refl _, hKl⟩ (Nat.le_of_ble_eq_true rfl) ?_
  refine pE_aload_n dX1_addStep_0 rfl rfl ?_
  refine pE_getI dX1_addStep_1 flX1_16 rfl (Or.inl rfl) (by first | assumption | rfl) ?_
  rw [hs]
  refine pE_if_lt (tgt := 47) dX1_addStep_4 (by decide) (fun h4 => ?_) (fun h4 => ?_)
  · exact absurd h4 (nI_pos (by omega))
  · refine pE_aload_n dX1_addStep_7 rfl rfl ?_
    refine pE_getI dX1_addStep_8 flX1_16 rfl (Or.inl rfl) (by first | assumption | rfl) ?_
    rw [hs]
    refine pE_sipush (v := nI 300) dX1_addStep_11 rfl ?_
    refine pE_icmp_ge (tgt := 47) dX1_addStep_14 (by decide) (fun h14 => ?_) (fun h14 => ?_)
    · have g14 := nq_le (by omega) (by omega) h14
      omega
    · have g14 := nq_nle (by omega) (by omega) h14
      refine pE_aload_n dX1_addStep_17 rfl rfl ?_
      refine pE_getR dX1_addStep_18 flX1_9 rfl (by first | assumption | rfl) (by first | assumption | rfl) ?_
      refine pE_aload_n dX1_addStep_21 rfl rfl ?_
      refine pE_getI dX1_addStep_22 flX1_16 rfl (Or.inl rfl) (by first | assumption | rfl) ?_
      rw [hs]
      refine pE_iload_n dX1_addStep_25 rfl rfl ?_
      refine pE_iastoreN dX1_addStep_26 (by first | assumption | rfl) (by first | assumption | omega) (by omega) ?_
      refine pE_aload_n dX1_addStep_27 rfl rfl ?_
      refine pE_getR dX1_addStep_28 flX1_13 rfl (by first | assumption | rfl) (by first | assumption | rfl) ?_
      refine pE_aload_n dX1_addStep_31 rfl rfl ?_
      refine pE_getI dX1_addStep_32 flX1_16 rfl (Or.inl rfl) (by first | assumption | rfl) ?_
      rw [pu_ne _ _ _ (show f ≠ f + 1 by omega), hs]
      refine pE_iload_n dX1_addStep_35 rfl rfl ?_
      refine pE_iastoreN dX1_addStep_36 (by first | assumption | rfl) (by first | assumption | omega) (by omega) ?_
      refine pE_aload_n dX1_addStep_37 rfl rfl ?_
      refine pE_dupR dX1_addStep_38 ?_
      refine pE_getI dX1_addStep_39 flX1_16 rfl (Or.inl rfl) (by first | assumption | rfl) ?_
      rw [pu_ne _ _ _ (show f ≠ f + 2 by omega), pu_ne _ _ _ (show f ≠ f + 1 by omega), hs]
      refine pE_iconst (v := nI 1) dX1_addStep_42 rfl ?_
      refine pE_iaddN dX1_addStep_43 ?_
      refine pE_putI dX1_addStep_44 flX1_16 ftX1 fiX1_2 rfl rfl (by first | assumption | rfl) ?_
      refine pE_vret dX1_addStep_47 rfl rfl ?_
      exact hq
set_option maxHeartbeats 400000 in
set_option maxRecDepth 100000 in
theorem GM_X1_addStepN {l : Launch} {X : pX} {K : List pS} {R : pHR} {I : pHI} {J : pHJ} {Q : pQ} {f : Nat} {a b : Int32} (hKl : K.length ≤ 1000) (hFF : FFk K R f) (hf : isF f) (hs : ∀ j, j < 300 → I f 2 ≠ nI j) (hq : Q none I J R) : pM l X yX1_addStep mX1_addStep 0 [.ref f, .int a, .int b] K K I J R Q := by
  obtain ⟨fFf0, fFf1, fFf2, fFf3, fFf4, fFf5, fFf6⟩ := id hFF
  have hfb := isF_b hf
  refine pM_of rfl (fun h => by cases h) rfl ⟨Nat.le_refl _, Nat.le_refl _, hKl⟩ (Nat.le_of_ble_eq_true rfl) ?_
  refine pE_aload_n dX1_addStep_0 rfl rfl ?_
  refine pE_getI dX1_addStep_1 flX1_16 rfl (Or.inl rfl) (by first | assumption | rfl) ?_
  refine pE_if_lt (tgt := 47) dX1_addStep_4 (by decide) (fun h4 => ?_) (fun h4 => ?_)
  · refine pE_vret dX1_addStep_47 rfl rfl ?_
    exact hq
  · refine pE_aload_n dX1_addStep_7 rfl rfl ?_
    refine pE_getI dX1_addStep_8 flX1_16 rfl (Or.inl rfl) (by first | assumption | rfl) ?_
    refine pE_sipush (v := nI 300) dX1_addStep_11 rfl ?_
    refine pE_icmp_ge (tgt := 47) dX1_addStep_14 (by decide) (fun h14 => ?_) (fun h14 => ?_)
    · refine pE_vret dX1_addStep_47 rfl rfl ?_
      exact hq
    · have hv : vp_in (I f 2) 300 := by
        rw [vp_in_iff]
        rw [Int32.lt_iff_toInt_lt, Int32.toInt_zero] at h4
        rw [Int32.le_iff_toInt_le, nI_toInt (by omega)] at h14
        omega
      obtain ⟨j, hj, e⟩ := vp_in_of hv (by omega)
      exact absurd e (hs j hj)
set_option maxHeartbeats 400000 in
set_option maxRecDepth 100000 in
theorem GM_X1_addStep {l : Launch} {X : pX} {K : List pS} {R : pHR} {I : pHI} {J : pHJ} {Q : pQ} {f : Nat} {a b : Int32} (hKl : K.length ≤ 1000) (hFF : FFk K R f) (hf : isF f) (hq : ∀ I1, sGf f I I1 → (∀ o q, a = nI q.1 → b = nI q.2 → cG f o I → cG f (o ++ [q]) I1) → Q none I1 J R) : pM l X yX1_addStep mX1_addStep 0 [.ref f, .int a, .int b] K K I J R Q := by
  by_cases c : ∃ j, j < 300 ∧ I f 2 = nI j
  · obtain ⟨j, hj, hs⟩ := c
    refine GM_X1_addStepA hKl hFF hf hs hj (hq _ sGf.add (fun o q e1 e2 h => ?_))
    have e := h.1
    rw [hs] at e
    have := (nI_eq (by omega) (by omega)).mp e
    rw [e1, e2, show j = o.length by omega]
    exact h.app (by omega)
  · refine GM_X1_addStepN hKl hFF hf (fun j hj e => c ⟨j, hj, e⟩) (hq _ (fun _ _ _ _ _ => rfl) (fun o q e1 e2 h => h.full ?_))
    rcases Nat.lt_or_ge o.length 300 with a1 | a1
    · exact absurd ⟨o.length, a1, by rw [h.1, Nat.min_eq_right (by omega)]⟩ c
    · exact a1
set_option maxHeartbeats 400000 in
set_option maxRecDepth 100000 in
theorem GM_X1_add {l : Launch} {X : pX} {K : List pS} {R : pHR} {I : pHI} {J : pHJ} {Q : pQ} {f : Nat} {a : Int32} (hKl : K.length ≤ 1000) (hFF : FFk K R f) (hf : isF f) (hq : ∀ I1, sGf f I I1 → (∀ o q, a = nI q.1 → q.2 = 0 → cG f o I → cG f (o ++ [q]) I1) → Q none I1 J R) : pM l X yX1_add mX1_add 1 [.ref f, .int a] K K I J R Q := by
  obtain ⟨fFf0, fFf1, fFf2, fFf3, fFf4, fFf5, fFf6⟩ := id hFF
  have hfb := isF_b hf
  refine pM_of rfl (fun h => by cases h) rfl ⟨Nat.le_refl _, Nat.le_refl _, hKl⟩ (Nat.le_of_ble_eq_true rfl) ?_
  refine pE_aload_n dX1_add_0 rfl rfl ?_
  refine pE_iload_n dX1_add_1 rfl rfl ?_
  refine pE_iconst (v := nI 0) dX1_add_2 rfl ?_
  refine pE_callV (d' := 0) (as := [_, _]) dX1_add_3 lkX1_26 (cwX1_addStep _ _) ivX1_addStep ⟨_, rfl, rfl⟩ (by first | assumption | rfl) rfl rfl (Nat.le_of_ble_eq_true rfl) (by decide) ⟨Nat.le_refl _, Nat.le_refl _, Nat.le_refl _, Nat.le_refl _, hKl⟩ ?_
  refine GM_X1_addStep hKl hFF hf (fun I1 x1 x2 => ?_)
  refine pE_vret dX1_add_6 rfl rfl ?_
  exact hq I1 x1 (fun o q e1 e2 h => x2 o q e1 (by rw [e2]) h)
set_option maxHeartbeats 400000 in
set_option maxRecDepth 100000 in
theorem GM_X1_addNumber {l : Launch} {X : pX} {K : List pS} {R : pHR} {I : pHI} {J : pHJ} {Q : pQ} {f : Nat} {a : Int32} (hKl : K.length ≤ 1000) (hFF : FFk K R f) (hf : isF f) (hq : ∀ I1, sGf f I I1 → (∀ o q, q.1 = 0 → a = nI q.2 → cG f o I → cG f (o ++ [q]) I1) → Q none I1 J R) : pM l X yX1_addNumber mX1_addNumber 1 [.ref f, .int a] K K I J R Q := by
  obtain ⟨fFf0, fFf1, fFf2, fFf3, fFf4, fFf5, fFf6⟩ := id hFF
  have hfb := isF_b hf
  refine pM_of rfl (fun h => by cases h) rfl ⟨Nat.le_refl _, Nat.le_refl _, hKl⟩ (Nat.le_of_ble_eq_true rfl) ?_
  refine pE_aload_n dX1_addNumber_0 rfl rfl ?_
  refine pE_iconst (v := nI 0) dX1_addNumber_1 rfl ?_
  refine pE_iload_n dX1_addNumber_2 rfl rfl ?_
  refine pE_callV (d' := 0) (as := [_, _]) dX1_addNumber_3 lkX1_26 (cwX1_addStep _ _) ivX1_addStep ⟨_, rfl, rfl⟩ (by first | assumption | rfl) rfl rfl (Nat.le_of_ble_eq_true rfl) (by decide) ⟨Nat.le_refl _, Nat.le_refl _, Nat.le_refl _, Nat.le_refl _, hKl⟩ ?_
  refine GM_X1_addStep hKl hFF hf (fun I1 x1 x2 => ?_)
  refine pE_vret dX1_addNumber_6 rfl rfl ?_
  exact hq I1 x1 (fun o q e1 e2 h => x2 o q (by rw [e1]) e2 h)
set_option maxHeartbeats 400000 in
set_option maxRecDepth 100000 in
theorem GM_X1_clear {l : Launch} {X : pX} {K : List pS} {R : pHR} {I : pHI} {J : pHJ} {Q : pQ} {f : Nat} (hKl : K.length ≤ 1000) (hFF : FFk K R f) (hf : isF f) (hq : Q none (pu I f 2 (nI 0)) J R) : pM l X yX1_clear mX1_clear 0 [.ref f] K K I J R Q := by
  obtain ⟨fFf0, fFf1, fFf2, fFf3, fFf4, fFf5, fFf6⟩ := id hFF
  have hfb := isF_b hf
  refine pM_of rfl (fun h => by cases h) rfl ⟨Nat.le_refl _, Nat.le_refl _, hKl⟩ (Nat.le_of_ble_eq_true rfl) ?_
  refine pE_aload_n dX1_clear_0 rfl rfl ?_
  refine pE_iconst (v := nI 0) dX1_clear_1 rfl ?_
  refine pE_putI dX1_clear_2 flX1_16 ftX1 fiX1_2 rfl rfl (by first | assumption | rfl) ?_
  refine pE_vret dX1_clear_5 rfl rfl ?_
  exact hq
set_option maxHeartbeats 400000 in
set_option maxRecDepth 100000 in
theorem GL_X2_clear {l : Launch} {X : pX} {K : List pS} {R : pHR} {I : pHI} {J : pHJ} {Q : pQ} {o : Nat} (hKl : K.length ≤ 1000) (hHF : HFk K R o) (ho : isH o) (hq : ∀ I1, sHo o I I1 → cH o H9 I1 → cF (o + 6) (dfl 0) I1 → cF (o + 10) (dfl 1) I1 → Q none I1 J R) : ∀ (fu : Nat) (j : Nat) (I1 : pHI), 8 - j < fu → (j ≤ 8) → (sHo o I I1 ∧ (I1 o 0 = nI 9 ∧ I1 o 1 = nI 0 ∧ I1 o 2 = nI 0 ∧ I1 o 10 = nI 0 ∧ I1 o 11 = nI 0) ∧ ∀ i, i < j → I1 (o + 1) i = nI 0 ∧ I1 (o + 2) i = nI 0 ∧ I1 (o + 3) i = nI 0 ∧ I1 (o + 4) i = nI 0 ∧ I1 (o + 5) i = nI 0) → pE l X mX2_clear 2 K 28 [some (.ref o), some (.int (nI j))] [] K I1 J R Q := by
  intro fu
  induction fu with
  | zero => intro j I1 hn; exact absurd hn (Nat.not_lt_zero _)
  | succ fu ih =>
    intro j I1 hn hj hv
    obtain ⟨fHho0, fHho1, fHho2, fHho3, fHho4, fHho5, fHho6, fHho7, fHho8, fHho9, fHho10, fHho11, fHho12, fHho13, fHho14, fHho15, fHho16, fHho17, fHho18, fHho19, fHho20, fHho21, fHho22, fHho23, fHho24, fHho25, fHho26⟩ := id hHF
    have hb := isH_b ho
    refine pE_iload_n dX2_clear_28 rfl rfl ?_
    refine pE_bipush (v := nI 8) dX2_clear_29 rfl ?_
    refine pE_icmp_ge (tgt := 75) dX2_clear_31 (by decide) (fun h31 => ?_) (fun h31 => ?_)
    · have g31 := nq_le (by omega) (by omega) h31
      refine pE_aload_n dX2_clear_75 rfl rfl ?_
      refine pE_getR dX2_clear_76 flX2_40 rfl (by first | assumption | rfl) (by first | assumption | rfl) ?_
      refine pE_callV (d' := 0) (as := []) dX2_clear_79 lkX2_56 (cwX1_clear _ _) ivX1_clear ⟨_, rfl, rfl⟩ (by first | assumption | rfl) rfl rfl (Nat.le_of_ble_eq_true rfl) (by decide) ⟨Nat.le_refl _, Nat.le_refl _, Nat.le_refl _, Nat.le_refl _, hKl⟩ ?_
      refine GM_X1_clear hKl hHF.c (isF_c ho) ?_
      refine pE_aload_n dX2_clear_82 rfl rfl ?_
      refine pE_getR dX2_clear_83 flX2_40 rfl (by first | assumption | rfl) (by first | assumption | rfl) ?_
      refine pE_iconst (v := nI 1) dX2_clear_86 rfl ?_
      refine pE_callV (d' := 1) (as := [_]) dX2_clear_87 lkX2_57 (cwX1_add _ _) ivX1_add ⟨_, rfl, rfl⟩ (by first | assumption | rfl) rfl rfl (Nat.le_of_ble_eq_true rfl) (by decide) ⟨Nat.le_refl _, Nat.le_refl _, Nat.le_refl _, Nat.le_refl _, hKl⟩ ?_
      refine GM_X1_add hKl hHF.c (isF_c ho) (fun I2 a1 b1 => ?_)
      refine pE_aload_n dX2_clear_90 rfl rfl ?_
      refine pE_getR dX2_clear_91 flX2_40 rfl (by first | assumption | rfl) (by first | assumption | rfl) ?_
      refine pE_bipush (v := nI 10) dX2_clear_94 rfl ?_
      refine pE_callV (d' := 1) (as := [_]) dX2_clear_96 lkX2_61 (cwX1_addNumber _ _) ivX1_addNumber ⟨_, rfl, rfl⟩ (by first | assumption | rfl) rfl rfl (Nat.le_of_ble_eq_true rfl) (by decide) ⟨Nat.le_refl _, Nat.le_refl _, Nat.le_refl _, Nat.le_refl _, hKl⟩ ?_
      refine GM_X1_addNumber hKl hHF.c (isF_c ho) (fun I3 a2 b2 => ?_)
      refine pE_aload_n dX2_clear_99 rfl rfl ?_
      refine pE_getR dX2_clear_100 flX2_40 rfl (by first | assumption | rfl) (by first | assumption | rfl) ?_
      refine pE_bipush (v := nI 42) dX2_clear_103 rfl ?_
      refine pE_callV (d' := 1) (as := [_]) dX2_clear_105 lkX2_57 (cwX1_add _ _) ivX1_add ⟨_, rfl, rfl⟩ (by first | assumption | rfl) rfl rfl (Nat.le_of_ble_eq_true rfl) (by decide) ⟨Nat.le_refl _, Nat.le_refl _, Nat.le_refl _, Nat.le_refl _, hKl⟩ ?_
      refine GM_X1_add hKl hHF.c (isF_c ho) (fun I4 a3 b3 => ?_)
      refine pE_aload_n dX2_clear_108 rfl rfl ?_
      refine pE_getR dX2_clear_109 flX2_44 rfl (by first | assumption | rfl) (by first | assumption | rfl) ?_
      refine pE_callV (d' := 0) (as := []) dX2_clear_112 lkX2_56 (cwX1_clear _ _) ivX1_clear ⟨_, rfl, rfl⟩ (by first | assumption | rfl) rfl rfl (Nat.le_of_ble_eq_true rfl) (by decide) ⟨Nat.le_refl _, Nat.le_refl _, Nat.le_refl _, Nat.le_refl _, hKl⟩ ?_
      refine GM_X1_clear hKl hHF.m (isF_m ho) ?_
      refine pE_aload_n dX2_clear_115 rfl rfl ?_
      refine pE_getR dX2_clear_116 flX2_44 rfl (by first | assumption | rfl) (by first | assumption | rfl) ?_
      refine pE_iconst (v := nI 5) dX2_clear_119 rfl ?_
      refine pE_callV (d' := 1) (as := [_]) dX2_clear_120 lkX2_57 (cwX1_add _ _) ivX1_add ⟨_, rfl, rfl⟩ (by first | assumption | rfl) rfl rfl (Nat.le_of_ble_eq_true rfl) (by decide) ⟨Nat.le_refl _, Nat.le_refl _, Nat.le_refl _, Nat.le_refl _, hKl⟩ ?_
      refine GM_X1_add hKl hHF.m (isF_m ho) (fun I5 a4 b4 => ?_)
      refine pE_aload_n dX2_clear_123 rfl rfl ?_
      refine pE_getR dX2_clear_124 flX2_44 rfl (by first | assumption | rfl) (by first | assumption | rfl) ?_
      refine pE_bipush (v := nI 10) dX2_clear_127 rfl ?_
      refine pE_callV (d' := 1) (as := [_]) dX2_clear_129 lkX2_61 (cwX1_addNumber _ _) ivX1_addNumber ⟨_, rfl, rfl⟩ (by first | assumption | rfl) rfl rfl (Nat.le_of_ble_eq_true rfl) (by decide) ⟨Nat.le_refl _, Nat.le_refl _, Nat.le_refl _, Nat.le_refl _, hKl⟩ ?_
      refine GM_X1_addNumber hKl hHF.m (isF_m ho) (fun I6 a5 b5 => ?_)
      refine pE_aload_n dX2_clear_132 rfl rfl ?_
      refine pE_getR dX2_clear_133 flX2_44 rfl (by first | assumption | rfl) (by first | assumption | rfl) ?_
      refine pE_bipush (v := nI 47) dX2_clear_136 rfl ?_
      refine pE_callV (d' := 1) (as := [_]) dX2_clear_138 lkX2_57 (cwX1_add _ _) ivX1_add ⟨_, rfl, rfl⟩ (by first | assumption | rfl) rfl rfl (Nat.le_of_ble_eq_true rfl) (by decide) ⟨Nat.le_refl _, Nat.le_refl _, Nat.le_refl _, Nat.le_refl _, hKl⟩ ?_
      refine GM_X1_add hKl hHF.m (isF_m ho) (fun I7 a6 b6 => ?_)
      refine pE_vret dX2_clear_141 rfl rfl ?_
      obtain ⟨v1, v2, v3⟩ := hv
      have s1 : sHo o I1 (pu I1 (o + 6) 2 (nI 0)) := sHo.rf.w (by omega)
      have s4 : sHo o I1 I4 := s1.tr ((a1.ho (Or.inl rfl)).tr ((a2.ho (Or.inl rfl)).tr (a3.ho (Or.inl rfl))))
      have s5 : sHo o I4 (pu I4 (o + 10) 2 (nI 0)) := sHo.rf.w (by omega)
      have s7 : sHo o I4 I7 := s5.tr ((a4.ho (Or.inr rfl)).tr ((a5.ho (Or.inr rfl)).tr (a6.ho (Or.inr rfl))))
      have c1 : cG (o + 6) (dfl 0) I4 := b3 _ (42, 0) rfl rfl (b2 _ (0, 10) rfl rfl (b1 [] (1, 0) rfl rfl (cG.nil (by rw [pu_at, if_pos ⟨rfl, rfl⟩]))))
      have c2 : cG (o + 10) (dfl 1) I7 := b6 _ (47, 0) rfl rfl (b5 _ (0, 10) rfl rfl (b4 [] (5, 0) rfl rfl (cG.nil (by rw [pu_at, if_pos ⟨rfl, rfl⟩]))))
      have g4 : ∀ c k, ¬ (o + 6 ≤ c ∧ c ≤ o + 8) → I4 c k = I1 c k := fun c k z => by
        rw [a3 c k (by omega) (by omega) (by omega), a2 c k (by omega) (by omega) (by omega), a1 c k (by omega) (by omega) (by omega), pu_ne _ _ _ (by omega)]
      have g7 : ∀ c k, ¬ (o + 10 ≤ c ∧ c ≤ o + 12) → I7 c k = I4 c k := fun c k z => by
        rw [a6 c k (by omega) (by omega) (by omega), a5 c k (by omega) (by omega) (by omega), a4 c k (by omega) (by omega) (by omega), pu_ne _ _ _ (by omega)]
      have c3 : cG (o + 6) (dfl 0) I7 := c1.fr (g7 _ _ (by omega)) (fun i => g7 _ _ (by omega)) (fun i => g7 _ _ (by omega))
      refine hq I7 (v1.tr (s4.tr s7)) ⟨?_, ?_, ?_, ?_, ?_, fun i hi => ?_⟩ (c3.cF (by decide) (by unfold okO dfl; decide)) (c2.cF (by decide) (by unfold okO dfl; decide))
      · rw [g7 _ _ (by omega), g4 _ _ (by omega)]; exact v2.1
      · rw [g7 _ _ (by omega), g4 _ _ (by omega)]; exact v2.2.1
      · rw [g7 _ _ (by omega), g4 _ _ (by omega)]; exact v2.2.2.1
      · rw [g7 _ _ (by omega), g4 _ _ (by omega)]; exact v2.2.2.2.1
      · rw [g7 _ _ (by omega), g4 _ _ (by omega)]; exact v2.2.2.2.2
      · rw [g7 _ _ (by omega), g4 _ _ (by omega), g7 _ _ (by omega), g4 _ _ (by omega), g7 _ _ (by omega), g4 _ _ (by omega), g7 _ _ (by omega), g4 _ _ (by omega), g7 _ _ (by omega), g4 _ _ (by omega), H9_0 (by omega), H9_0 (by omega), H9_0 (by omega), H9_0 (by omega), H9_0 (by omega)]
        exact v3 i (by omega)
    · have g31 := nq_nle (by omega) (by omega) h31
      refine pE_aload_n dX2_clear_34 rfl rfl ?_
      refine pE_getR dX2_clear_35 flX2_21 rfl (by first | assumption | rfl) (by first | assumption | rfl) ?_
      refine pE_iload_n dX2_clear_38 rfl rfl ?_
      refine pE_iconst (v := nI 0) dX2_clear_39 rfl ?_
      refine pE_iastoreN dX2_clear_40 (by first | assumption | rfl) (by first | assumption | omega) (by omega) ?_
      refine pE_aload_n dX2_clear_41 rfl rfl ?_
      refine pE_getR dX2_clear_42 flX2_25 rfl (by first | assumption | rfl) (by first | assumption | rfl) ?_
      refine pE_iload_n dX2_clear_45 rfl rfl ?_
      refine pE_iconst (v := nI 0) dX2_clear_46 rfl ?_
      refine pE_iastoreN dX2_clear_47 (by first | assumption | rfl) (by first | assumption | omega) (by omega) ?_
      refine pE_aload_n dX2_clear_48 rfl rfl ?_
      refine pE_getR dX2_clear_49 flX2_28 rfl (by first | assumption | rfl) (by first | assumption | rfl) ?_
      refine pE_iload_n dX2_clear_52 rfl rfl ?_
      refine pE_iconst (v := nI 0) dX2_clear_53 rfl ?_
      refine pE_iastoreN dX2_clear_54 (by first | assumption | rfl) (by first | assumption | omega) (by omega) ?_
      refine pE_aload_n dX2_clear_55 rfl rfl ?_
      refine pE_getR dX2_clear_56 flX2_31 rfl (by first | assumption | rfl) (by first | assumption | rfl) ?_
      refine pE_iload_n dX2_clear_59 rfl rfl ?_
      refine pE_iconst (v := nI 0) dX2_clear_60 rfl ?_
      refine pE_iastoreN dX2_clear_61 (by first | assumption | rfl) (by first | assumption | omega) (by omega) ?_
      refine pE_aload_n dX2_clear_62 rfl rfl ?_
      refine pE_getR dX2_clear_63 flX2_34 rfl (by first | assumption | rfl) (by first | assumption | rfl) ?_
      refine pE_iload_n dX2_clear_66 rfl rfl ?_
      refine pE_iconst (v := nI 0) dX2_clear_67 rfl ?_
      refine pE_iastoreN dX2_clear_68 (by first | assumption | rfl) (by first | assumption | omega) (by omega) ?_
      refine pE_iincN (c0 := 1) (lc' := [_, some (.int _)]) dX2_clear_69 rfl rfl rfl rfl ?_
      refine pE_goto (tgt := 28) dX2_clear_72 (by decide) ?_
      obtain ⟨v1, v2, v3⟩ := hv
      refine ih (j + 1) _ (by omega) (by omega) ⟨((((v1.w (by omega)).w (by omega)).w (by omega)).w (by omega)).w (by omega), ?_, fun i hi => ?_⟩
      · simp only [pu_ne _ _ _ (show o ≠ o + 1 by omega), pu_ne _ _ _ (show o ≠ o + 2 by omega), pu_ne _ _ _ (show o ≠ o + 3 by omega), pu_ne _ _ _ (show o ≠ o + 4 by omega), pu_ne _ _ _ (show o ≠ o + 5 by omega)]
        exact v2
      · refine ⟨?_, ?_, ?_, ?_, ?_⟩
        · rw [pu_at, if_neg (by omega), pu_at, if_neg (by omega), pu_at, if_neg (by omega), pu_at, if_neg (by omega), pu_at]
          split
          · rfl
          · exact (v3 i (by omega)).1
        · rw [pu_at, if_neg (by omega), pu_at, if_neg (by omega), pu_at, if_neg (by omega), pu_at]
          split
          · rfl
          · rw [pu_at, if_neg (by omega)]; exact (v3 i (by omega)).2.1
        · rw [pu_at, if_neg (by omega), pu_at, if_neg (by omega), pu_at]
          split
          · rfl
          · rw [pu_at, if_neg (by omega), pu_at, if_neg (by omega)]; exact (v3 i (by omega)).2.2.1
        · rw [pu_at, if_neg (by omega), pu_at]
          split
          · rfl
          · rw [pu_at, if_neg (by omega), pu_at, if_neg (by omega), pu_at, if_neg (by omega)]; exact (v3 i (by omega)).2.2.2.1
        · rw [pu_at]
          split
          · rfl
          · rw [pu_at, if_neg (by omega), pu_at, if_neg (by omega), pu_at, if_neg (by omega), pu_at, if_neg (by omega)]; exact (v3 i (by omega)).2.2.2.2
set_option maxHeartbeats 400000 in
set_option maxRecDepth 100000 in
theorem GM_X2_clear {l : Launch} {X : pX} {K : List pS} {R : pHR} {I : pHI} {J : pHJ} {Q : pQ} {o : Nat} (hKl : K.length ≤ 1000) (hHF : HFk K R o) (ho : isH o) (hq : ∀ I1, sHo o I I1 → cH o H9 I1 → cF (o + 6) (dfl 0) I1 → cF (o + 10) (dfl 1) I1 → Q none I1 J R) : pM l X yX2_clear mX2_clear 2 [.ref o] K K I J R Q := by
  obtain ⟨fHho0, fHho1, fHho2, fHho3, fHho4, fHho5, fHho6, fHho7, fHho8, fHho9, fHho10, fHho11, fHho12, fHho13, fHho14, fHho15, fHho16, fHho17, fHho18, fHho19, fHho20, fHho21, fHho22, fHho23, fHho24, fHho25, fHho26⟩ := id hHF
  have hb := isH_b ho
  refine pM_of rfl (fun h => by cases h) rfl ⟨Nat.le_refl _, Nat.le_refl _, hKl⟩ (Nat.le_of_ble_eq_true rfl) ?_
  refine pE_aload_n dX2_clear_0 rfl rfl ?_
  refine pE_bipush (v := nI 9) dX2_clear_1 rfl ?_
  refine pE_putI dX2_clear_3 flX2_9 ftX2 fiX2_0 rfl rfl (by first | assumption | rfl) ?_
  refine pE_aload_n dX2_clear_6 rfl rfl ?_
  refine pE_iconst (v := nI 0) dX2_clear_7 rfl ?_
  refine pE_putI dX2_clear_8 flX2_15 ftX2 fiX2_1 rfl rfl (by first | assumption | rfl) ?_
  refine pE_aload_n dX2_clear_11 rfl rfl ?_
  refine pE_iconst (v := nI 0) dX2_clear_12 rfl ?_
  refine pE_putI dX2_clear_13 flX2_18 ftX2 fiX2_2 rfl rfl (by first | assumption | rfl) ?_
  refine pE_aload_n dX2_clear_16 rfl rfl ?_
  refine pE_iconst (v := nI 0) dX2_clear_17 rfl ?_
  refine pE_putI dX2_clear_18 flX2_47 ftX2 fiX2_10 rfl rfl (by first | assumption | rfl) ?_
  refine pE_aload_n dX2_clear_21 rfl rfl ?_
  refine pE_iconst (v := nI 0) dX2_clear_22 rfl ?_
  refine pE_putI dX2_clear_23 flX2_50 ftX2 fiX2_11 rfl rfl (by first | assumption | rfl) ?_
  refine pE_iconst (v := nI 0) dX2_clear_26 rfl ?_
  refine pE_istore_n (lc' := [_, some (.int _)]) dX2_clear_27 rfl (Nat.le_of_ble_eq_true rfl) rfl rfl ?_
  refine GL_X2_clear hKl hHF ho hq 9 0 _ (by omega) (by omega) ⟨((((sHo.rf.w (by omega)).w (by omega)).w (by omega)).w (by omega)).w (by omega), ⟨?_, ?_, ?_, ?_, ?_⟩, fun i hi => absurd hi (by omega)⟩
  · rw [pu_at, if_neg (by omega), pu_at, if_neg (by omega), pu_at, if_neg (by omega), pu_at, if_neg (by omega), pu_at, if_pos ⟨rfl, rfl⟩]
  · rw [pu_at, if_neg (by omega), pu_at, if_neg (by omega), pu_at, if_neg (by omega), pu_at, if_pos ⟨rfl, rfl⟩]
  · rw [pu_at, if_neg (by omega), pu_at, if_neg (by omega), pu_at, if_pos ⟨rfl, rfl⟩]
  · rw [pu_at, if_neg (by omega), pu_at, if_pos ⟨rfl, rfl⟩]
  · rw [pu_at, if_pos ⟨rfl, rfl⟩]
set_option maxHeartbeats 400000 in
set_option maxRecDepth 100000 in
theorem GL_X2_begin {l : Launch} {X : pX} {K : List pS} {R : pHR} {I : pHI} {J : pHJ} {Q : pQ} {o : Nat} {H : pN} (hKl : K.length ≤ 1000) (hHF : HFk K R o) (hSF : SFk K R 33) (ho : isH o) (hH : cH o H I) (hq : ∀ I1, sBg I I1 → cS 33 (bgT H) I1 → Q none I1 J R) : ∀ (fu : Nat) (j : Nat) (I1 : pHI), 8 - j < fu → (j ≤ 8) → (sBg I I1) → (∀ i, i < j → I1 34 i = nI (H (16 + i)) ∧ I1 35 i = nI 0 ∧ I1 36 i = nI 0) → pE l X mX2_begin 0 K 2 [some (.ref o), some (.ref 33), some (.int (nI j))] [] K I1 J R Q := by
  intro fu
  induction fu with
  | zero => intro j I1 hn; exact absurd hn (Nat.not_lt_zero _)
  | succ fu ih =>
    intro j I1 hn hj hx hv
    obtain ⟨fHho0, fHho1, fHho2, fHho3, fHho4, fHho5, fHho6, fHho7, fHho8, fHho9, fHho10, fHho11, fHho12, fHho13, fHho14, fHho15, fHho16, fHho17, fHho18, fHho19, fHho20, fHho21, fHho22, fHho23, fHho24, fHho25, fHho26⟩ := id hHF
    have hb := isH_b ho
    obtain ⟨fSs0, fSs1, fSs2, fSs3, fSs4, fSs5, fSs6⟩ := id hSF
    obtain ⟨hh0, hh1, hh2, hh3, hh4, hh5⟩ := hH
    refine pE_iload_n dX2_begin_2 rfl rfl ?_
    refine pE_bipush (v := nI 8) dX2_begin_3 rfl ?_
    refine pE_icmp_ge (tgt := 40) dX2_begin_5 (by decide) (fun h5 => ?_) (fun h5 => ?_)
    · have g5 := nq_le (by omega) (by omega) h5
      refine pE_aload_n dX2_begin_40 rfl rfl ?_
      refine pE_iconst (v := nI 0) dX2_begin_41 rfl ?_
      refine pE_putI dX2_begin_42 flX2_75 ftX9 fiX9_3 rfl rfl (by first | assumption | rfl) ?_
      refine pE_aload_n dX2_begin_45 rfl rfl ?_
      refine pE_aload_n dX2_begin_46 rfl rfl ?_
      refine pE_getI dX2_begin_47 flX2_15 rfl (Or.inl rfl) (by first | assumption | rfl) ?_
      rw [show (pu I1 33 3 (nI 0)) o 1 = nI (H 2) from by rw [pu_ne _ _ _ (by omega)]; exact (hx o 1 (by omega) (by omega)).trans hh1]
      refine pE_putI dX2_begin_50 flX2_78 ftX9 fiX9_4 rfl rfl (by first | assumption | rfl) ?_
      refine pE_aload_n dX2_begin_53 rfl rfl ?_
      refine pE_iconst (v := nI 0) dX2_begin_54 rfl ?_
      refine pE_putI dX2_begin_55 flX2_81 ftX9 fiX9_5 rfl rfl (by first | assumption | rfl) ?_
      refine pE_aload_n dX2_begin_58 rfl rfl ?_
      refine pE_aload_n dX2_begin_59 rfl rfl ?_
      refine pE_getI dX2_begin_60 flX2_47 rfl (Or.inl rfl) (by first | assumption | rfl) ?_
      rw [show (pu (pu (pu I1 33 3 (nI 0)) 33 4 (nI (H 2))) 33 5 (nI 0)) o 10 = nI (H 3) from by rw [pu_ne _ _ _ (by omega), pu_ne _ _ _ (by omega), pu_ne _ _ _ (by omega)]; exact (hx o 10 (by omega) (by omega)).trans hh3]
      refine pE_putI dX2_begin_63 flX2_84 ftX9 fiX9_6 rfl rfl (by first | assumption | rfl) ?_
      refine pE_vret dX2_begin_66 rfl rfl ?_
      have hf : ∀ c k, ¬ (c = 33 ∧ 3 ≤ k) → pu (pu (pu (pu I1 33 3 (nI 0)) 33 4 (nI (H 2))) 33 5 (nI 0)) 33 6 (nI (H 3)) c k = I1 c k := fun c k z => by
        rw [pu_at, if_neg (by omega), pu_at, if_neg (by omega), pu_at, if_neg (by omega), pu_at, if_neg (by omega)]
      refine hq _ (fun c k a b => by rw [hf c k a]; exact hx c k a b) ⟨?_, ?_, ?_, ?_, fun i hi => ?_⟩
      · rw [pu_at, if_neg (by omega), pu_at, if_neg (by omega), pu_at, if_neg (by omega), pu_at, if_pos ⟨rfl, rfl⟩]; rfl
      · rw [pu_at, if_neg (by omega), pu_at, if_neg (by omega), pu_at, if_pos ⟨rfl, rfl⟩]; rfl
      · rw [pu_at, if_neg (by omega), pu_at, if_pos ⟨rfl, rfl⟩]; rfl
      · rw [pu_at, if_pos ⟨rfl, rfl⟩]; rfl
      · obtain ⟨v1, v2, v3⟩ := hv i (by omega)
        rw [hf _ _ (by omega), hf _ _ (by omega), hf _ _ (by omega)]
        have e1 : bgT H i = H (16 + i) := if_pos hi
        have e2 : bgT H (8 + i) = 0 := by unfold bgT; rw [if_neg (by omega), if_neg (by omega), if_neg (by omega)]
        have e3 : bgT H (16 + i) = 0 := by unfold bgT; rw [if_neg (by omega), if_neg (by omega), if_neg (by omega)]
        rw [e1, e2, e3]
        exact ⟨v1, v2, v3⟩
    · have g5 := nq_nle (by omega) (by omega) h5
      refine pE_aload_n dX2_begin_8 rfl rfl ?_
      refine pE_getR dX2_begin_9 flX2_64 rfl (by first | assumption | rfl) (by first | assumption | rfl) ?_
      refine pE_iload_n dX2_begin_12 rfl rfl ?_
      refine pE_aload_n dX2_begin_13 rfl rfl ?_
      refine pE_getR dX2_begin_14 flX2_25 rfl (by first | assumption | rfl) (by first | assumption | rfl) ?_
      refine pE_iload_n dX2_begin_17 rfl rfl ?_
      refine pE_ialoadN dX2_begin_18 (by first | assumption | rfl) (by first | assumption | omega) (by omega) ?_
      rw [(hx (o + 2) j (by omega) (by omega)).trans (hh5 j (by omega)).2.1]
      refine pE_iastoreN dX2_begin_19 (by first | assumption | rfl) (by first | assumption | omega) (by omega) ?_
      refine pE_aload_n dX2_begin_20 rfl rfl ?_
      refine pE_getR dX2_begin_21 flX2_69 rfl (by first | assumption | rfl) (by first | assumption | rfl) ?_
      refine pE_iload_n dX2_begin_24 rfl rfl ?_
      refine pE_iconst (v := nI 0) dX2_begin_25 rfl ?_
      refine pE_iastoreN dX2_begin_26 (by first | assumption | rfl) (by first | assumption | omega) (by omega) ?_
      refine pE_aload_n dX2_begin_27 rfl rfl ?_
      refine pE_getR dX2_begin_28 flX2_72 rfl (by first | assumption | rfl) (by first | assumption | rfl) ?_
      refine pE_iload_n dX2_begin_31 rfl rfl ?_
      refine pE_iconst (v := nI 0) dX2_begin_32 rfl ?_
      refine pE_iastoreN dX2_begin_33 (by first | assumption | rfl) (by first | assumption | omega) (by omega) ?_
      refine pE_iincN (c0 := 1) (lc' := [_, _, some (.int _)]) dX2_begin_34 rfl rfl rfl rfl ?_
      refine pE_goto (tgt := 2) dX2_begin_37 (by decide) ?_
      refine ih (j + 1) _ (by omega) (by omega) (fun c k a b => ?_) (fun i hi => ?_)
      · rw [pu_ne _ _ _ (by omega), pu_ne _ _ _ (by omega), pu_ne _ _ _ (by omega)]; exact hx c k a b
      · refine ⟨?_, ?_, ?_⟩
        · rw [pu_ne _ _ _ (by decide), pu_ne _ _ _ (by decide), pu_at]
          split
          · rename_i z; rw [z.2]
          · exact (hv i (by omega)).1
        · rw [pu_ne _ _ _ (by decide), pu_at]
          split
          · rfl
          · rw [pu_ne _ _ _ (by decide)]; exact (hv i (by omega)).2.1
        · rw [pu_at]
          split
          · rfl
          · rw [pu_ne _ _ _ (by decide), pu_ne _ _ _ (by decide)]; exact (hv i (by omega)).2.2
set_option maxHeartbeats 400000 in
set_option maxRecDepth 100000 in
theorem GM_X2_begin {l : Launch} {X : pX} {K : List pS} {R : pHR} {I : pHI} {J : pHJ} {Q : pQ} {o : Nat} {H : pN} (hKl : K.length ≤ 1000) (hHF : HFk K R o) (hSF : SFk K R 33) (ho : isH o) (hH : cH o H I) (hq : ∀ I1, sBg I I1 → cS 33 (bgT H) I1 → Q none I1 J R) : pM l X yX2_begin mX2_begin 0 [.ref o, .ref 33] K K I J R Q := by
  obtain ⟨fHho0, fHho1, fHho2, fHho3, fHho4, fHho5, fHho6, fHho7, fHho8, fHho9, fHho10, fHho11, fHho12, fHho13, fHho14, fHho15, fHho16, fHho17, fHho18, fHho19, fHho20, fHho21, fHho22, fHho23, fHho24, fHho25, fHho26⟩ := id hHF
  have hb := isH_b ho
  refine pM_of rfl (fun h => by cases h) rfl ⟨Nat.le_refl _, Nat.le_refl _, hKl⟩ (Nat.le_of_ble_eq_true rfl) ?_
  refine pE_iconst (v := nI 0) dX2_begin_0 rfl ?_
  refine pE_istore_n (lc' := [_, _, some (.int _)]) dX2_begin_1 rfl (Nat.le_of_ble_eq_true rfl) rfl rfl ?_
  exact GL_X2_begin hKl hHF hSF ho hH hq 9 0 I (by omega) (by omega) (fun _ _ _ _ => rfl) (fun i hi => absurd hi (by omega))
set_option maxHeartbeats 4000000 in
set_option maxRecDepth 100000 in
theorem GM_X3_slotOf {l : Launch} {X : pX} {K : List pS} {R : pHR} {I : pHI} {J : pHJ} {Q : pQ} {od a : Nat} (hKl : K.length ≤ 1000) (h41 : K[41]? = some (.inl 3)) (h1 : I 41 1 = nI od) (ho : od < 41) (ha : a ≤ 41) (hq : Q (some (.int (nI ((od + a) % 41)))) I J R) : pM l X yX3_slotOf mX3_slotOf 0 [.ref 41, .int (nI a)] K K I J R Q := by
  refine pM_of rfl (fun h => by cases h) rfl ⟨Nat.le_refl _, Nat.le_refl _, hKl⟩ (Nat.le_of_ble_eq_true rfl) ?_
  refine pE_aload_n dX3_slotOf_0 rfl rfl ?_
  refine pE_getI dX3_slotOf_1 flX3_15 rfl (Or.inl rfl) (by first | assumption | rfl) ?_
  rw [h1]
  refine pE_iload_n dX3_slotOf_4 rfl rfl ?_
  refine pE_iaddN dX3_slotOf_5 ?_
  refine pE_bipush (v := nI 41) dX3_slotOf_6 rfl ?_
  refine pE_iremN dX3_slotOf_8 (by omega) (by omega) (by omega) ?_
  refine pE_iret dX3_slotOf_9 rfl rfl ?_
  exact hq
set_option maxHeartbeats 4000000 in
set_option maxRecDepth 100000 in
theorem GM_X9_saveTo {l : Launch} {X : pX} {K : List pS} {R : pHR} {I : pHI} {J : pHJ} {Q : pQ} {b k N : Nat} {T : pN} (hKl : K.length ≤ 1000) (hSR : K[33]? = some (.inl 9) ∧ R 33 0 = some 34 ∧ R 33 1 = some 35 ∧ R 33 2 = some 36 ∧ K[34]? = some (.inr (0, 8)) ∧ K[35]? = some (.inr (0, 8)) ∧ K[36]? = some (.inr (0, 8))) (hS : cS 33 T I) (hb : K[b]? = some (.inr (0, N))) (hn : N ≤ 2000) (hk : 28 * k + 28 ≤ N) (hne : b = 42 ∨ b = 43) (hq : ∀ gg : Nat → Int32, (∀ q, q < 28 → gg (28 * k + q) = nI (T q)) → (∀ q, q < 28 * k ∨ 28 * k + 28 ≤ q → gg q = I b q) → Q none (pz I b gg) J R) : pM l X yX9_saveTo mX9_saveTo 1 [.ref 33, .ref b, .int (nI k)] K K I J R Q := by
  obtain ⟨s0, s1, s2, s3, s4, s5, s6⟩ := id hSR
  have nb : 33 ≠ b ∧ 34 ≠ b ∧ 35 ≠ b ∧ 36 ≠ b := by rcases hne with rfl | rfl <;> decide
  refine pM_of rfl (fun h => by cases h) rfl ⟨Nat.le_refl _, Nat.le_refl _, hKl⟩ (Nat.le_of_ble_eq_true rfl) ?_
  refine pE_iload_n dX9_saveTo_0 rfl rfl ?_
  refine pE_bipush (v := nI 28) dX9_saveTo_1 rfl ?_
  refine pE_imulN dX9_saveTo_3 ?_
  refine pE_istore_n (lc' := [_, _, _, some (.int _)]) dX9_saveTo_4 rfl (Nat.le_of_ble_eq_true rfl) rfl rfl ?_
  refine pE_iload_n dX9_saveTo_5 rfl rfl ?_
  refine pE_if_lt (tgt := 18) dX9_saveTo_6 (by decide) (fun h6 => ?_) (fun h6 => ?_)
  · exact absurd h6 (nI_pos (by omega))
  · refine pE_iload_n dX9_saveTo_9 rfl rfl ?_
    refine pE_aload_n dX9_saveTo_10 rfl rfl ?_
    refine pE_alenN dX9_saveTo_11 (by first | assumption | rfl) (by decide) ?_
    refine pE_bipush (v := nI 28) dX9_saveTo_12 rfl ?_
    refine pE_isubN dX9_saveTo_14 (by omega) ?_
    refine pE_icmp_le (tgt := 19) dX9_saveTo_15 (by decide) (fun h15 => ?_) (fun h15 => ?_)
    · have g15 := nq_le (by omega) (by omega) h15
      refine pE_aload_n dX9_saveTo_19 rfl rfl ?_
      refine pE_getR dX9_saveTo_20 flX9_9 rfl (by first | assumption | rfl) (by first | assumption | rfl) ?_
      refine pE_iconst (v := nI 0) dX9_saveTo_23 rfl ?_
      refine pE_aload_n dX9_saveTo_24 rfl rfl ?_
      refine pE_iload_n dX9_saveTo_25 rfl rfl ?_
      refine pE_bipush (v := nI 8) dX9_saveTo_26 rfl ?_
      refine pE_acopy dX9_saveTo_28 lkX9_34 (by first | assumption | rfl) (by first | assumption | rfl) (nI_pos (by omega)) (nI_pos (by omega)) (nI_pos (by omega)) (by rw [nI_clamp (by omega), nI_clamp (by omega)]; omega) (by rw [nI_clamp (by omega), nI_clamp (by omega)]; omega) (by decide) (Nat.le_of_ble_eq_true rfl) ?_
      refine pE_aload_n dX9_saveTo_31 rfl rfl ?_
      refine pE_getR dX9_saveTo_32 flX9_15 rfl (by first | assumption | rfl) (by first | assumption | rfl) ?_
      refine pE_iconst (v := nI 0) dX9_saveTo_35 rfl ?_
      refine pE_aload_n dX9_saveTo_36 rfl rfl ?_
      refine pE_iload_n dX9_saveTo_37 rfl rfl ?_
      refine pE_bipush (v := nI 8) dX9_saveTo_38 rfl ?_
      refine pE_iaddN dX9_saveTo_40 ?_
      refine pE_bipush (v := nI 8) dX9_saveTo_41 rfl ?_
      refine pE_acopy dX9_saveTo_43 lkX9_34 (by first | assumption | rfl) (by first | assumption | rfl) (nI_pos (by omega)) (nI_pos (by omega)) (nI_pos (by omega)) (by rw [nI_clamp (by omega), nI_clamp (by omega)]; omega) (by rw [nI_clamp (by omega), nI_clamp (by omega)]; omega) (by decide) (Nat.le_of_ble_eq_true rfl) ?_
      refine pE_aload_n dX9_saveTo_46 rfl rfl ?_
      refine pE_getR dX9_saveTo_47 flX9_18 rfl (by first | assumption | rfl) (by first | assumption | rfl) ?_
      refine pE_iconst (v := nI 0) dX9_saveTo_50 rfl ?_
      refine pE_aload_n dX9_saveTo_51 rfl rfl ?_
      refine pE_iload_n dX9_saveTo_52 rfl rfl ?_
      refine pE_bipush (v := nI 16) dX9_saveTo_53 rfl ?_
      refine pE_iaddN dX9_saveTo_55 ?_
      refine pE_bipush (v := nI 8) dX9_saveTo_56 rfl ?_
      refine pE_acopy dX9_saveTo_58 lkX9_34 (by first | assumption | rfl) (by first | assumption | rfl) (nI_pos (by omega)) (nI_pos (by omega)) (nI_pos (by omega)) (by rw [nI_clamp (by omega), nI_clamp (by omega)]; omega) (by rw [nI_clamp (by omega), nI_clamp (by omega)]; omega) (by decide) (Nat.le_of_ble_eq_true rfl) ?_
      refine pE_aload_n dX9_saveTo_61 rfl rfl ?_
      refine pE_iload_n dX9_saveTo_62 rfl rfl ?_
      refine pE_bipush (v := nI 28) dX9_saveTo_63 rfl ?_
      refine pE_iaddN dX9_saveTo_65 ?_
      refine pE_iconst (v := nI 4) dX9_saveTo_66 rfl ?_
      refine pE_isubN dX9_saveTo_67 (by omega) ?_
      refine pE_aload_n dX9_saveTo_68 rfl rfl ?_
      refine pE_getI dX9_saveTo_69 flX9_21 rfl (Or.inl rfl) (by first | assumption | rfl) ?_
      refine pE_iastoreN dX9_saveTo_72 (by first | assumption | rfl) (by omega) (by omega) ?_
      refine pE_aload_n dX9_saveTo_73 rfl rfl ?_
      refine pE_iload_n dX9_saveTo_74 rfl rfl ?_
      refine pE_bipush (v := nI 28) dX9_saveTo_75 rfl ?_
      refine pE_iaddN dX9_saveTo_77 ?_
      refine pE_iconst (v := nI 3) dX9_saveTo_78 rfl ?_
      refine pE_isubN dX9_saveTo_79 (by omega) ?_
      refine pE_aload_n dX9_saveTo_80 rfl rfl ?_
      refine pE_getI dX9_saveTo_81 flX9_25 rfl (Or.inl rfl) (by first | assumption | rfl) ?_
      refine pE_iastoreN dX9_saveTo_84 (by first | assumption | rfl) (by omega) (by omega) ?_
      refine pE_aload_n dX9_saveTo_85 rfl rfl ?_
      refine pE_iload_n dX9_saveTo_86 rfl rfl ?_
      refine pE_bipush (v := nI 28) dX9_saveTo_87 rfl ?_
      refine pE_iaddN dX9_saveTo_89 ?_
      refine pE_iconst (v := nI 2) dX9_saveTo_90 rfl ?_
      refine pE_isubN dX9_saveTo_91 (by omega) ?_
      refine pE_aload_n dX9_saveTo_92 rfl rfl ?_
      refine pE_getI dX9_saveTo_93 flX9_28 rfl (Or.inl rfl) (by first | assumption | rfl) ?_
      refine pE_iastoreN dX9_saveTo_96 (by first | assumption | rfl) (by omega) (by omega) ?_
      refine pE_aload_n dX9_saveTo_97 rfl rfl ?_
      refine pE_iload_n dX9_saveTo_98 rfl rfl ?_
      refine pE_bipush (v := nI 28) dX9_saveTo_99 rfl ?_
      refine pE_iaddN dX9_saveTo_101 ?_
      refine pE_iconst (v := nI 1) dX9_saveTo_102 rfl ?_
      refine pE_isubN dX9_saveTo_103 (by omega) ?_
      refine pE_aload_n dX9_saveTo_104 rfl rfl ?_
      refine pE_getI dX9_saveTo_105 flX9_31 rfl (Or.inl rfl) (by first | assumption | rfl) ?_
      refine pE_iastoreN dX9_saveTo_108 (by first | assumption | rfl) (by omega) (by omega) ?_
      refine pE_vret dX9_saveTo_109 rfl rfl ?_
      rw [cpyN _ _ (by omega) (by omega) (by omega), cpyN _ _ (by omega) (by omega) (by omega), cpyN _ _ (by omega) (by omega) (by omega)]
      simp only [pu_pz, pz_pz, pz_eq, pz_ne _ _ nb.1, pz_ne _ _ nb.2.1, pz_ne _ _ nb.2.2.1, pz_ne _ _ nb.2.2.2, pu_ne _ _ _ nb.1, Nat.zero_add]
      obtain ⟨s1, s2, s3, s4, s5⟩ := hS
      refine hq _ (fun q hq28 => ?_) (fun q ho => ?_)
      · by_cases c7 : q = 27
        · subst c7; rw [if_pos (by omega)]; exact s4
        rw [if_neg (by omega)]
        by_cases c6 : q = 26
        · subst c6; rw [if_pos (by omega)]; exact s3
        rw [if_neg (by omega)]
        by_cases c5 : q = 25
        · subst c5; rw [if_pos (by omega)]; exact s2
        rw [if_neg (by omega)]
        by_cases c4 : q = 24
        · subst c4; rw [if_pos (by omega)]; exact s1
        rw [if_neg (by omega)]
        by_cases e3 : 16 ≤ q
        · rw [cpy_in (by omega), show 28 * k + q - (k * 28 + 16) = q - 16 by omega]
          have := (s5 (q - 16) (by omega)).2.2
          rw [show 16 + (q - 16) = q by omega] at this
          simpa using this
        · rw [cpy_out (by omega)]
          by_cases e2 : 8 ≤ q
          · rw [cpy_in (by omega), show 28 * k + q - (k * 28 + 8) = q - 8 by omega]
            have := (s5 (q - 8) (by omega)).2.1
            rw [show 8 + (q - 8) = q by omega] at this
            simpa using this
          · rw [cpy_out (by omega), cpy_in (by omega), show 28 * k + q - k * 28 = q by omega]
            simpa using (s5 q (by omega)).1
      · rw [if_neg (by omega), if_neg (by omega), if_neg (by omega), if_neg (by omega), cpy_out (by omega), cpy_out (by omega), cpy_out (by omega)]
    · have g15 := nq_nle (by omega) (by omega) h15
      exact absurd g15 (by omega)
set_option maxHeartbeats 4000000 in
set_option maxRecDepth 100000 in
theorem GM_X3_restart {l : Launch} {X : pX} {K : List pS} {R : pHR} {I : pHI} {J : pHJ} {Q : pQ} {T : pN} (hKl : K.length ≤ 1000) (hSR : K[33]? = some (.inl 9) ∧ R 33 0 = some 34 ∧ R 33 1 = some 35 ∧ R 33 2 = some 36 ∧ K[34]? = some (.inr (0, 8)) ∧ K[35]? = some (.inr (0, 8)) ∧ K[36]? = some (.inr (0, 8))) (h41 : K[41]? = some (.inl 3)) (h42 : K[42]? = some (.inr (0, 1148))) (hR41 : R 41 0 = some 42) (hS : cS 33 T I) (hq : ∀ I1, sk I I1 → cK I1 0 0 0 (fun _ => T) → Q none I1 J R) : pM l X yX3_restart mX3_restart 2 [.ref 41, .ref 33] K K I J R Q := by
  obtain ⟨s0, s1, s2, s3, s4, s5, s6⟩ := id hSR
  refine pM_of rfl (fun h => by cases h) rfl ⟨Nat.le_refl _, Nat.le_refl _, hKl⟩ (Nat.le_of_ble_eq_true rfl) ?_
  refine pE_aload_n dX3_restart_0 rfl rfl ?_
  refine pE_iconst (v := nI 0) dX3_restart_1 rfl ?_
  refine pE_putI dX3_restart_2 flX3_15 ftX3 fiX3_1 rfl rfl (by first | assumption | rfl) ?_
  refine pE_aload_n dX3_restart_5 rfl rfl ?_
  refine pE_iconst (v := nI 0) dX3_restart_6 rfl ?_
  refine pE_putI dX3_restart_7 flX3_19 ftX3 fiX3_2 rfl rfl (by first | assumption | rfl) ?_
  refine pE_aload_n dX3_restart_10 rfl rfl ?_
  refine pE_iconst (v := nI 0) dX3_restart_11 rfl ?_
  refine pE_putI dX3_restart_12 flX3_22 ftX3 fiX3_3 rfl rfl (by first | assumption | rfl) ?_
  refine pE_aload_n dX3_restart_15 rfl rfl ?_
  refine pE_aload_n dX3_restart_16 rfl rfl ?_
  refine pE_getR dX3_restart_17 flX3_11 rfl (by first | assumption | rfl) (by first | assumption | rfl) ?_
  refine pE_aload_n dX3_restart_20 rfl rfl ?_
  refine pE_iconst (v := nI 0) dX3_restart_21 rfl ?_
  refine pE_callV (d' := 0) (as := [_]) dX3_restart_22 lkX3_32 (cwX3_slotOf _ _) ivX3_slotOf ⟨_, rfl, rfl⟩ (by first | assumption | rfl) rfl rfl (Nat.le_of_ble_eq_true rfl) (by decide) ⟨Nat.le_refl _, Nat.le_refl _, Nat.le_refl _, Nat.le_refl _, hKl⟩ ?_
  refine GM_X3_slotOf hKl h41 (od := 0) (a := 0) (by simp [pu_at]) (by omega) (by omega) ?_
  refine pE_callV (d' := 1) (as := [_, _]) dX3_restart_25 lkX3_36 (cwX9_saveTo _ _) ivX9_saveTo ⟨_, rfl, rfl⟩ (by first | assumption | rfl) rfl rfl (Nat.le_of_ble_eq_true rfl) (by decide) ⟨Nat.le_refl _, Nat.le_refl _, Nat.le_refl _, Nat.le_refl _, hKl⟩ ?_
  refine GM_X9_saveTo hKl hSR (k := (0 + 0) % 41) (T := T) (hS.sk (fun c k n1 n2 => by rw [pu_ne _ _ _ n1, pu_ne _ _ _ n1, pu_ne _ _ _ n1])) h42 (by omega) (by omega) (Or.inl rfl) (fun gg k1 k2 => ?_)
  refine pE_vret dX3_restart_28 rfl rfl ?_
  refine hq _ (fun c k n1 n2 => ?_) ⟨?_, ?_, ?_, by omega, by omega, fun i hi q hq => ?_⟩
  · rw [pz_ne _ _ n2, pu_ne _ _ _ n1, pu_ne _ _ _ n1, pu_ne _ _ _ n1]
  · rw [pz_ne _ _ (by decide)]; simp [pu_at]
  · rw [pz_ne _ _ (by decide)]; simp [pu_at]
  · rw [pz_ne _ _ (by decide)]; simp [pu_at]
  · obtain rfl : i = 0 := by omega
    rw [pz_eq]; exact k1 q hq
