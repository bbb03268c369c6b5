/-! the steps of a formula that is being read: 300 of them at most are kept *) -/
def cG (f : Nat) (o : pP) (I : pHI) : Prop := I f 2 = nI (min 300 o.length) ∧ ∀ (i : Nat) (q : Nat × Nat), i < 300 → o[i]? = some q → I (f + 1) i = nI q.1 ∧ I (f + 2) i = nI q.2
/-- what reading a formula changes -/
def sR3 (f : Nat) (I I1 : pHI) : Prop := ∀ c k, ¬ (c = 4 ∧ 2 ≤ k) → ¬ (c = 2 ∧ (k = 2 ∨ 6 ≤ k)) → ¬ (c = f ∧ k = 2) → c ≠ f + 1 → c ≠ f + 2 → I1 c k = I c k
theorem sR3.rf {f : Nat} {I : pHI} : sR3 f I I := fun _ _ _ _ _ _ _ => rfl
theorem sR3.tr {f : Nat} {I I1 I2 : pHI} (h1 : sR3 f I I1) (h2 : sR3 f I1 I2) : sR3 f I I2 := fun c k a b d e g => (h2 c k a b d e g).trans (h1 c k a b d e g)
theorem sR2.r3 {f : Nat} {I I1 : pHI} (h : sR2 I I1) : sR3 f I I1 := fun c k a b _ _ _ => h c k a (fun q => b ⟨q.1, Or.inr q.2⟩)
/-- the formula's own cells alone -/
def sGf (f : Nat) (I I1 : pHI) : Prop := ∀ c k, ¬ (c = f ∧ k = 2) → c ≠ f + 1 → c ≠ f + 2 → I1 c k = I c k
theorem sGf.r3 {f : Nat} {I I1 : pHI} (h : sGf f I I1) : sR3 f I I1 := fun c k _ _ d e g => h c k d e g
theorem isF_b {f : Nat} (h : isF f) : 11 ≤ f ∧ f ≤ 29 := by rcases h with rfl | rfl | rfl | rfl <;> omega
theorem cG.app {f : Nat} {o : pP} {I : pHI} {q : Nat × Nat} (h : cG f o I) (hl : o.length < 300) : cG f (o ++ [q]) (pu (pu (pu I (f + 1) o.length (nI q.1)) (f + 2) o.length (nI q.2)) f 2 (nI (o.length + 1))) := by
  refine ⟨?_, fun i q' hi e => ?_⟩
  · rw [pu_at, if_pos ⟨rfl, rfl⟩, List.length_append, List.length_singleton, Nat.min_eq_right (by omega)]
  · rw [pu_at, if_neg (by omega), pu_at, pu_at, if_neg (by omega), pu_at, pu_at, pu_at, if_neg (by omega : ¬ (f + 2 = f + 1 ∧ i = o.length))]
    by_cases c : i = o.length
    · subst c
      rw [List.getElem?_append_right (Nat.le_refl _), Nat.sub_self] at e
      cases e
      rw [if_pos ⟨rfl, rfl⟩, if_neg (by omega), if_pos ⟨rfl, rfl⟩]
      exact ⟨rfl, rfl⟩
    · have e2 : o[i]? = some q' := by
        rcases Nat.lt_or_ge i o.length with a | a
        · rw [List.getElem?_append_left a] at e; exact e
        · rw [List.getElem?_append_right a, List.getElem?_eq_none (by simp; omega)] at e; cases e
      rw [if_neg (by omega), if_neg (by omega), if_neg (by omega)]
      exact h.2 i q' hi e2
theorem cG.full {f : Nat} {o : pP} {I : pHI} {q : Nat × Nat} (h : cG f o I) (hl : 300 ≤ o.length) : cG f (o ++ [q]) I := by
  refine ⟨?_, fun i q' hi e => ?_⟩
  · rw [h.1, List.length_append, Nat.min_eq_left hl, Nat.min_eq_left (by omega)]
  · rw [List.getElem?_append_left (by omega)] at e
    exact h.2 i q' hi e
theorem cG.nil {f : Nat} {I : pHI} (h : I f 2 = nI 0) : cG f [] I := ⟨h, fun i q _ e => by cases e⟩
theorem cG.fr {f : Nat} {o : pP} {I I1 : pHI} (h : cG f o I) (h0 : I1 f 2 = I f 2) (h1 : ∀ i, I1 (f + 1) i = I (f + 1) i) (h2 : ∀ i, I1 (f + 2) i = I (f + 2) i) : cG f o I1 := ⟨h0.trans h.1, fun i q hi e => by rw [h1, h2]; exact h.2 i q hi e⟩
theorem cG.cF {f : Nat} {o : pP} {I : pHI} (h : cG f o I) (hl : o.length ≤ 269) (ho : okO o) : cF f o I := by
  refine ⟨by omega, ?_, fun i q e => ?_⟩
  · rw [h.1, Nat.min_eq_right (by omega)]
  · have hi := (List.getElem?_eq_some_iff.mp e).1
    have k := h.2 i q (by omega) e
    have m := ho q (List.mem_of_getElem? e)
    exact ⟨k.1, k.2, m.1, m.2⟩
theorem sGf.add {f j : Nat} {a b c : Int32} {I : pHI} : sGf f I (pu (pu (pu I (f + 1) j a) (f + 2) j b) f 2 c) := fun c' k h0 h1 h2 => by
  rw [pu_at, if_neg (by omega), pu_at, if_neg (by omega), pu_at, if_neg (by omega)]
set_option maxHeartbeats 400000 in
set_option maxRecDepth 100000 in
theorem M_X1_addStepA {l : Launch} {X : pX} {t g : Nat} {I : pHI} {J : pHJ} {Q : pQ} {f j : Nat} {a b : Int32} (hf : isF f) (hs : I f 2 = nI j) (hj : j < 300) (hq : Q none (pu (pu (pu I (f + 1) j a) (f + 2) j b) f 2 (nI (j + 1))) J (pR t g)) : pM l X yX1_addStep mX1_addStep 0 [.ref f, .int a, .int b] pK pK I J (pR t g) Q := by
  obtain ⟨fFf0, fFf1, fFf2, fFf3, fFf4, fFf5, fFf6⟩ := FF t g hf
  have hfb := isF_b hf
  refine pM_of rfl (fun h => by cases h) rfl pKM (Nat.le_of_ble_eq_true rfl) ?_
  refine pE_aload_n dX1_addStep_0 rfl rfl ?_
  refine pE_getI dX1_addStep_1 flX1_16 rfl (Or.inl rfl) (by first | assumption | rfl) ?_
  rw [hs]
  refine pE_if_lt (tgt := 47) dX1_addStep_4 (by decide) (fun h4 => ?_) (fun h4 => ?_)
  · exact absurd h4 (nI_pos (by omega))
  · refine pE_aload_n dX1_addStep_7 rfl rfl ?_
    refine pE_getI dX1_addStep_8 flX1_16 rfl (Or.inl rfl) (by first | assumption | rfl) ?_
    rw [hs]
    refine pE_sipush (v := nI 300) dX1_addStep_11 rfl ?_
    refine pE_icmp_ge (tgt := 47) dX1_addStep_14 (by decide) (fun h14 => ?_) (fun h14 => ?_)
    · have g14 := nq_le (by omega) (by omega) h14
      omega
    · have g14 := nq_nle (by omega) (by omega) h14
      refine pE_aload_n dX1_addStep_17 rfl rfl ?_
      refine pE_getR dX1_addStep_18 flX1_9 rfl (by first | assumption | rfl) (by first | assumption | rfl) ?_
      refine pE_aload_n dX1_addStep_21 rfl rfl ?_
      refine pE_getI dX1_addStep_22 flX1_16 rfl (Or.inl rfl) (by first | assumption | rfl) ?_
      rw [hs]
      refine pE_iload_n dX1_addStep_25 rfl rfl ?_
      refine pE_iastoreN dX1_addStep_26 (by first | assumption | rfl) (by first | assumption | omega) (by omega) ?_
      refine pE_aload_n dX1_addStep_27 rfl rfl ?_
      refine pE_getR dX1_addStep_28 flX1_13 rfl (by first | assumption | rfl) (by first | assumption | rfl) ?_
      refine pE_aload_n dX1_addStep_31 rfl rfl ?_
      refine pE_getI dX1_addStep_32 flX1_16 rfl (Or.inl rfl) (by first | assumption | rfl) ?_
      rw [pu_ne _ _ _ (show f ≠ f + 1 by omega), hs]
      refine pE_iload_n dX1_addStep_35 rfl rfl ?_
      refine pE_iastoreN dX1_addStep_36 (by first | assumption | rfl) (by first | assumption | omega) (by omega) ?_
      refine pE_aload_n dX1_addStep_37 rfl rfl ?_
      refine pE_dupR dX1_addStep_38 ?_
      refine pE_getI dX1_addStep_39 flX1_16 rfl (Or.inl rfl) (by first | assumption | rfl) ?_
      rw [pu_ne _ _ _ (show f ≠ f + 2 by omega), pu_ne _ _ _ (show f ≠ f + 1 by omega), hs]
      refine pE_iconst (v := nI 1) dX1_addStep_42 rfl ?_
      refine pE_iaddN dX1_addStep_43 ?_
      refine pE_putI dX1_addStep_44 flX1_16 ftX1 fiX1_2 rfl rfl (by first | assumption | rfl) ?_
      refine pE_vret dX1_addStep_47 rfl rfl ?_
      exact hq
set_option maxHeartbeats 400000 in
set_option maxRecDepth 100000 in
theorem M_X1_addStepN {l : Launch} {X : pX} {t g : Nat} {I : pHI} {J : pHJ} {Q : pQ} {f : Nat} {a b : Int32} (hf : isF f) (hs : ∀ j, j < 300 → I f 2 ≠ nI j) (hq : Q none I J (pR t g)) : pM l X yX1_addStep mX1_addStep 0 [.ref f, .int a, .int b] pK pK I J (pR t g) Q := by
  obtain ⟨fFf0, fFf1, fFf2, fFf3, fFf4, fFf5, fFf6⟩ := FF t g hf
  have hfb := isF_b hf
  refine pM_of rfl (fun h => by cases h) rfl pKM (Nat.le_of_ble_eq_true rfl) ?_
  refine pE_aload_n dX1_addStep_0 rfl rfl ?_
  refine pE_getI dX1_addStep_1 flX1_16 rfl (Or.inl rfl) (by first | assumption | rfl) ?_
  refine pE_if_lt (tgt := 47) dX1_addStep_4 (by decide) (fun h4 => ?_) (fun h4 => ?_)
  · refine pE_vret dX1_addStep_47 rfl rfl ?_
    exact hq
  · refine pE_aload_n dX1_addStep_7 rfl rfl ?_
    refine pE_getI dX1_addStep_8 flX1_16 rfl (Or.inl rfl) (by first | assumption | rfl) ?_
    refine pE_sipush (v := nI 300) dX1_addStep_11 rfl ?_
    refine pE_icmp_ge (tgt := 47) dX1_addStep_14 (by decide) (fun h14 => ?_) (fun h14 => ?_)
    · refine pE_vret dX1_addStep_47 rfl rfl ?_
      exact hq
    · have hv : vp_in (I f 2) 300 := by
        rw [vp_in_iff]
        rw [Int32.lt_iff_toInt_lt, Int32.toInt_zero] at h4
        rw [Int32.le_iff_toInt_le, nI_toInt (by omega)] at h14
        omega
      obtain ⟨j, hj, e⟩ := vp_in_of hv (by omega)
      exact absurd e (hs j hj)
set_option maxHeartbeats 400000 in
set_option maxRecDepth 100000 in
theorem M_X1_addStep {l : Launch} {X : pX} {t g : Nat} {I : pHI} {J : pHJ} {Q : pQ} {f : Nat} {a b : Int32} (hf : isF f) (hq : ∀ I1, sGf f I I1 → (∀ o q, a = nI q.1 → b = nI q.2 → cG f o I → cG f (o ++ [q]) I1) → Q none I1 J (pR t g)) : pM l X yX1_addStep mX1_addStep 0 [.ref f, .int a, .int b] pK pK I J (pR t g) Q := by
  by_cases c : ∃ j, j < 300 ∧ I f 2 = nI j
  · obtain ⟨j, hj, hs⟩ := c
    refine M_X1_addStepA hf hs hj (hq _ sGf.add (fun o q e1 e2 h => ?_))
    have e := h.1
    rw [hs] at e
    have := (nI_eq (by omega) (by omega)).mp e
    rw [e1, e2, show j = o.length by omega]
    exact h.app (by omega)
  · refine M_X1_addStepN hf (fun j hj e => c ⟨j, hj, e⟩) (hq _ (fun _ _ _ _ _ => rfl) (fun o q e1 e2 h => h.full ?_))
    rcases Nat.lt_or_ge o.length 300 with a1 | a1
    · exact absurd ⟨o.length, a1, by rw [h.1, Nat.min_eq_right (by omega)]⟩ c
    · exact a1
set_option maxHeartbeats 400000 in
set_option maxRecDepth 100000 in
theorem M_X1_add {l : Launch} {X : pX} {t g : Nat} {I : pHI} {J : pHJ} {Q : pQ} {f : Nat} {a : Int32} (hf : isF f) (hq : ∀ I1, sGf f I I1 → (∀ o q, a = nI q.1 → q.2 = 0 → cG f o I → cG f (o ++ [q]) I1) → Q none I1 J (pR t g)) : pM l X yX1_add mX1_add 1 [.ref f, .int a] pK pK I J (pR t g) Q := by
  obtain ⟨fFf0, fFf1, fFf2, fFf3, fFf4, fFf5, fFf6⟩ := FF t g hf
  have hfb := isF_b hf
  refine pM_of rfl (fun h => by cases h) rfl pKM (Nat.le_of_ble_eq_true rfl) ?_
  refine pE_aload_n dX1_add_0 rfl rfl ?_
  refine pE_iload_n dX1_add_1 rfl rfl ?_
  refine pE_iconst (v := nI 0) dX1_add_2 rfl ?_
  refine pE_callV (d' := 0) (as := [_, _]) dX1_add_3 lkX1_26 (cwX1_addStep _ _) ivX1_addStep ⟨_, rfl, rfl⟩ (by first | assumption | rfl) rfl rfl (Nat.le_of_ble_eq_true rfl) (by decide) pKK ?_
  refine M_X1_addStep hf (fun I1 x1 x2 => ?_)
  refine pE_vret dX1_add_6 rfl rfl ?_
  exact hq I1 x1 (fun o q e1 e2 h => x2 o q e1 (by rw [e2]) h)
set_option maxHeartbeats 400000 in
set_option maxRecDepth 100000 in
theorem M_X1_addNumber {l : Launch} {X : pX} {t g : Nat} {I : pHI} {J : pHJ} {Q : pQ} {f : Nat} {a : Int32} (hf : isF f) (hq : ∀ I1, sGf f I I1 → (∀ o q, q.1 = 0 → a = nI q.2 → cG f o I → cG f (o ++ [q]) I1) → Q none I1 J (pR t g)) : pM l X yX1_addNumber mX1_addNumber 1 [.ref f, .int a] pK pK I J (pR t g) Q := by
  obtain ⟨fFf0, fFf1, fFf2, fFf3, fFf4, fFf5, fFf6⟩ := FF t g hf
  have hfb := isF_b hf
  refine pM_of rfl (fun h => by cases h) rfl pKM (Nat.le_of_ble_eq_true rfl) ?_
  refine pE_aload_n dX1_addNumber_0 rfl rfl ?_
  refine pE_iconst (v := nI 0) dX1_addNumber_1 rfl ?_
  refine pE_iload_n dX1_addNumber_2 rfl rfl ?_
  refine pE_callV (d' := 0) (as := [_, _]) dX1_addNumber_3 lkX1_26 (cwX1_addStep _ _) ivX1_addStep ⟨_, rfl, rfl⟩ (by first | assumption | rfl) rfl rfl (Nat.le_of_ble_eq_true rfl) (by decide) pKK ?_
  refine M_X1_addStep hf (fun I1 x1 x2 => ?_)
  refine pE_vret dX1_addNumber_6 rfl rfl ?_
  exact hq I1 x1 (fun o q e1 e2 h => x2 o q (by rw [e1]) e2 h)
set_option maxHeartbeats 400000 in
set_option maxRecDepth 100000 in
theorem M_X1_clear {l : Launch} {X : pX} {t g : Nat} {I : pHI} {J : pHJ} {Q : pQ} {f : Nat} (hf : isF f) (hq : Q none (pu I f 2 (nI 0)) J (pR t g)) : pM l X yX1_clear mX1_clear 0 [.ref f] pK pK I J (pR t g) Q := by
  obtain ⟨fFf0, fFf1, fFf2, fFf3, fFf4, fFf5, fFf6⟩ := FF t g hf
  have hfb := isF_b hf
  refine pM_of rfl (fun h => by cases h) rfl pKM (Nat.le_of_ble_eq_true rfl) ?_
  refine pE_aload_n dX1_clear_0 rfl rfl ?_
  refine pE_iconst (v := nI 0) dX1_clear_1 rfl ?_
  refine pE_putI dX1_clear_2 flX1_16 ftX1 fiX1_2 rfl rfl (by first | assumption | rfl) ?_
  refine pE_vret dX1_clear_5 rfl rfl ?_
  exact hq
