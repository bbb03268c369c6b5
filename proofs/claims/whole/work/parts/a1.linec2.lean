/-! the HOUSE o, as lines tell it *) -/
def sHo (o : Nat) (I I1 : pHI) : Prop := ∀ c k, ¬ (o ≤ c ∧ c ≤ o + 13) → I1 c k = I c k
theorem sHo.rf {o : Nat} {I : pHI} : sHo o I I := fun _ _ _ => rfl
theorem sHo.tr {o : Nat} {I I1 I2 : pHI} (h1 : sHo o I I1) (h2 : sHo o I1 I2) : sHo o I I2 := fun c k a => (h2 c k a).trans (h1 c k a)
theorem sHo.w {o c k : Nat} {I I1 : pHI} {x : Int32} (h : sHo o I I1) (hc : o ≤ c ∧ c ≤ o + 13) : sHo o I (pu I1 c k x) := fun c' j a => by
  rw [pu_at, if_neg (fun q => a (by rw [q.1]; exact hc))]; exact h c' j a
theorem sGf.ho {o f : Nat} {I I1 : pHI} (h : sGf f I I1) (hf : f = o + 6 ∨ f = o + 10) : sHo o I I1 := fun c k a => h c k (fun q => a (by omega)) (fun q => a (by omega)) (fun q => a (by omega))
theorem H9_0 {k : Nat} (h : k ≠ 0) : H9 k = 0 := if_neg h
theorem cF.fr {f : Nat} {w : pP} {I I1 : pHI} (h : cF f w I) (h0 : I1 f 2 = I f 2) (h1 : ∀ i, I1 (f + 1) i = I (f + 1) i) (h2 : ∀ i, I1 (f + 2) i = I (f + 2) i) : cF f w I1 := ⟨h.1, h0.trans h.2.1, fun i q e => by rw [h1, h2]; exact h.2.2 i q e⟩
theorem cH.fr {o : Nat} {H : pN} {I I1 : pHI} (h : cH o H I) (h0 : ∀ k, k = 0 ∨ k = 1 ∨ k = 2 ∨ k = 10 ∨ k = 11 → I1 o k = I o k) (h1 : ∀ c i, o + 1 ≤ c → c ≤ o + 5 → I1 c i = I c i) : cH o H I1 := by
  obtain ⟨a, b, c, d, e, f⟩ := h
  refine ⟨(h0 0 (by omega)).trans a, (h0 1 (by omega)).trans b, (h0 2 (by omega)).trans c, (h0 10 (by omega)).trans d, (h0 11 (by omega)).trans e, fun j hj => ?_⟩
  rw [h1 (o + 1) j (by omega) (by omega), h1 (o + 2) j (by omega) (by omega), h1 (o + 3) j (by omega) (by omega), h1 (o + 4) j (by omega) (by omega), h1 (o + 5) j (by omega) (by omega)]
  exact f j hj
theorem cH.w8 {o t v : Nat} {H : pN} {I : pHI} (h : cH o H I) (ht : t < 8) : cH o (upN H (8 + t) v) (pu I (o + 1) t (nI v)) := by
  obtain ⟨a, b, c, d, e, f⟩ := h
  refine ⟨?_, ?_, ?_, ?_, ?_, fun j hj => ?_⟩
  · rw [pu_at, if_neg (by omega), upN_n (by omega)]; exact a
  · rw [pu_at, if_neg (by omega), upN_n (by omega)]; exact b
  · rw [pu_at, if_neg (by omega), upN_n (by omega)]; exact c
  · rw [pu_at, if_neg (by omega), upN_n (by omega)]; exact d
  · rw [pu_at, if_neg (by omega), upN_n (by omega)]; exact e
  · obtain ⟨f1, f2, f3, f4, f5⟩ := f j hj
    refine ⟨?_, ?_, ?_, ?_, ?_⟩
    · rw [pu_at]
      by_cases z : j = t
      · rw [z, if_pos ⟨rfl, rfl⟩, upN_e]
      · rw [if_neg (by omega), upN_n (by omega)]; exact f1
    · rw [pu_at, if_neg (by omega), upN_n (by omega)]; exact f2
    · rw [pu_at, if_neg (by omega), upN_n (by omega)]; exact f3
    · rw [pu_at, if_neg (by omega), upN_n (by omega)]; exact f4
    · rw [pu_at, if_neg (by omega), upN_n (by omega)]; exact f5
theorem cH.w16 {o t v : Nat} {H : pN} {I : pHI} (h : cH o H I) (ht : t < 8) : cH o (upN H (16 + t) v) (pu I (o + 2) t (nI v)) := by
  obtain ⟨a, b, c, d, e, f⟩ := h
  refine ⟨?_, ?_, ?_, ?_, ?_, fun j hj => ?_⟩
  · rw [pu_at, if_neg (by omega), upN_n (by omega)]; exact a
  · rw [pu_at, if_neg (by omega), upN_n (by omega)]; exact b
  · rw [pu_at, if_neg (by omega), upN_n (by omega)]; exact c
  · rw [pu_at, if_neg (by omega), upN_n (by omega)]; exact d
  · rw [pu_at, if_neg (by omega), upN_n (by omega)]; exact e
  · obtain ⟨f1, f2, f3, f4, f5⟩ := f j hj
    refine ⟨?_, ?_, ?_, ?_, ?_⟩
    · rw [pu_at, if_neg (by omega), upN_n (by omega)]; exact f1
    · rw [pu_at]
      by_cases z : j = t
      · rw [z, if_pos ⟨rfl, rfl⟩, upN_e]
      · rw [if_neg (by omega), upN_n (by omega)]; exact f2
    · rw [pu_at, if_neg (by omega), upN_n (by omega)]; exact f3
    · rw [pu_at, if_neg (by omega), upN_n (by omega)]; exact f4
    · rw [pu_at, if_neg (by omega), upN_n (by omega)]; exact f5
theorem cH.w24 {o t v : Nat} {H : pN} {I : pHI} (h : cH o H I) (ht : t < 8) : cH o (upN H (24 + t) v) (pu I (o + 3) t (nI v)) := by
  obtain ⟨a, b, c, d, e, f⟩ := h
  refine ⟨?_, ?_, ?_, ?_, ?_, fun j hj => ?_⟩
  · rw [pu_at, if_neg (by omega), upN_n (by omega)]; exact a
  · rw [pu_at, if_neg (by omega), upN_n (by omega)]; exact b
  · rw [pu_at, if_neg (by omega), upN_n (by omega)]; exact c
  · rw [pu_at, if_neg (by omega), upN_n (by omega)]; exact d
  · rw [pu_at, if_neg (by omega), upN_n (by omega)]; exact e
  · obtain ⟨f1, f2, f3, f4, f5⟩ := f j hj
    refine ⟨?_, ?_, ?_, ?_, ?_⟩
    · rw [pu_at, if_neg (by omega), upN_n (by omega)]; exact f1
    · rw [pu_at, if_neg (by omega), upN_n (by omega)]; exact f2
    · rw [pu_at]
      by_cases z : j = t
      · rw [z, if_pos ⟨rfl, rfl⟩, upN_e]
      · rw [if_neg (by omega), upN_n (by omega)]; exact f3
    · rw [pu_at, if_neg (by omega), upN_n (by omega)]; exact f4
    · rw [pu_at, if_neg (by omega), upN_n (by omega)]; exact f5
theorem cH.w32 {o t v : Nat} {H : pN} {I : pHI} (h : cH o H I) (ht : t < 8) : cH o (upN H (32 + t) v) (pu I (o + 4) t (nI v)) := by
  obtain ⟨a, b, c, d, e, f⟩ := h
  refine ⟨?_, ?_, ?_, ?_, ?_, fun j hj => ?_⟩
  · rw [pu_at, if_neg (by omega), upN_n (by omega)]; exact a
  · rw [pu_at, if_neg (by omega), upN_n (by omega)]; exact b
  · rw [pu_at, if_neg (by omega), upN_n (by omega)]; exact c
  · rw [pu_at, if_neg (by omega), upN_n (by omega)]; exact d
  · rw [pu_at, if_neg (by omega), upN_n (by omega)]; exact e
  · obtain ⟨f1, f2, f3, f4, f5⟩ := f j hj
    refine ⟨?_, ?_, ?_, ?_, ?_⟩
    · rw [pu_at, if_neg (by omega), upN_n (by omega)]; exact f1
    · rw [pu_at, if_neg (by omega), upN_n (by omega)]; exact f2
    · rw [pu_at, if_neg (by omega), upN_n (by omega)]; exact f3
    · rw [pu_at]
      by_cases z : j = t
      · rw [z, if_pos ⟨rfl, rfl⟩, upN_e]
      · rw [if_neg (by omega), upN_n (by omega)]; exact f4
    · rw [pu_at, if_neg (by omega), upN_n (by omega)]; exact f5
theorem cH.w40 {o t v : Nat} {H : pN} {I : pHI} (h : cH o H I) (ht : t < 8) : cH o (upN H (40 + t) v) (pu I (o + 5) t (nI v)) := by
  obtain ⟨a, b, c, d, e, f⟩ := h
  refine ⟨?_, ?_, ?_, ?_, ?_, fun j hj => ?_⟩
  · rw [pu_at, if_neg (by omega), upN_n (by omega)]; exact a
  · rw [pu_at, if_neg (by omega), upN_n (by omega)]; exact b
  · rw [pu_at, if_neg (by omega), upN_n (by omega)]; exact c
  · rw [pu_at, if_neg (by omega), upN_n (by omega)]; exact d
  · rw [pu_at, if_neg (by omega), upN_n (by omega)]; exact e
  · obtain ⟨f1, f2, f3, f4, f5⟩ := f j hj
    refine ⟨?_, ?_, ?_, ?_, ?_⟩
    · rw [pu_at, if_neg (by omega), upN_n (by omega)]; exact f1
    · rw [pu_at, if_neg (by omega), upN_n (by omega)]; exact f2
    · rw [pu_at, if_neg (by omega), upN_n (by omega)]; exact f3
    · rw [pu_at, if_neg (by omega), upN_n (by omega)]; exact f4
    · rw [pu_at]
      by_cases z : j = t
      · rw [z, if_pos ⟨rfl, rfl⟩, upN_e]
      · rw [if_neg (by omega), upN_n (by omega)]; exact f5
theorem cH.u0 {o v : Nat} {H : pN} {I : pHI} (h : cH o H I) : cH o (upN H 0 v) (pu I o 0 (nI v)) := by
  obtain ⟨a, b, c, d, e, f⟩ := h
  refine ⟨?_, ?_, ?_, ?_, ?_, fun j hj => ?_⟩
  · rw [pu_at, if_pos ⟨rfl, rfl⟩, upN_e]
  · rw [pu_at, if_neg (by omega), upN_n (by omega)]; exact b
  · rw [pu_at, if_neg (by omega), upN_n (by omega)]; exact c
  · rw [pu_at, if_neg (by omega), upN_n (by omega)]; exact d
  · rw [pu_at, if_neg (by omega), upN_n (by omega)]; exact e
  · rw [pu_ne _ _ _ (by omega), pu_ne _ _ _ (by omega), pu_ne _ _ _ (by omega), pu_ne _ _ _ (by omega), pu_ne _ _ _ (by omega), upN_n (by omega), upN_n (by omega), upN_n (by omega), upN_n (by omega), upN_n (by omega)]
    exact f j hj
theorem cH.u2 {o v : Nat} {H : pN} {I : pHI} (h : cH o H I) : cH o (upN H 2 v) (pu I o 1 (nI v)) := by
  obtain ⟨a, b, c, d, e, f⟩ := h
  refine ⟨?_, ?_, ?_, ?_, ?_, fun j hj => ?_⟩
  · rw [pu_at, if_neg (by omega), upN_n (by omega)]; exact a
  · rw [pu_at, if_pos ⟨rfl, rfl⟩, upN_e]
  · rw [pu_at, if_neg (by omega), upN_n (by omega)]; exact c
  · rw [pu_at, if_neg (by omega), upN_n (by omega)]; exact d
  · rw [pu_at, if_neg (by omega), upN_n (by omega)]; exact e
  · rw [pu_ne _ _ _ (by omega), pu_ne _ _ _ (by omega), pu_ne _ _ _ (by omega), pu_ne _ _ _ (by omega), pu_ne _ _ _ (by omega), upN_n (by omega), upN_n (by omega), upN_n (by omega), upN_n (by omega), upN_n (by omega)]
    exact f j hj
theorem cH.u1 {o v : Nat} {H : pN} {I : pHI} (h : cH o H I) : cH o (upN H 1 v) (pu I o 2 (nI v)) := by
  obtain ⟨a, b, c, d, e, f⟩ := h
  refine ⟨?_, ?_, ?_, ?_, ?_, fun j hj => ?_⟩
  · rw [pu_at, if_neg (by omega), upN_n (by omega)]; exact a
  · rw [pu_at, if_neg (by omega), upN_n (by omega)]; exact b
  · rw [pu_at, if_pos ⟨rfl, rfl⟩, upN_e]
  · rw [pu_at, if_neg (by omega), upN_n (by omega)]; exact d
  · rw [pu_at, if_neg (by omega), upN_n (by omega)]; exact e
  · rw [pu_ne _ _ _ (by omega), pu_ne _ _ _ (by omega), pu_ne _ _ _ (by omega), pu_ne _ _ _ (by omega), pu_ne _ _ _ (by omega), upN_n (by omega), upN_n (by omega), upN_n (by omega), upN_n (by omega), upN_n (by omega)]
    exact f j hj
theorem cH.u3 {o v : Nat} {H : pN} {I : pHI} (h : cH o H I) : cH o (upN H 3 v) (pu I o 10 (nI v)) := by
  obtain ⟨a, b, c, d, e, f⟩ := h
  refine ⟨?_, ?_, ?_, ?_, ?_, fun j hj => ?_⟩
  · rw [pu_at, if_neg (by omega), upN_n (by omega)]; exact a
  · rw [pu_at, if_neg (by omega), upN_n (by omega)]; exact b
  · rw [pu_at, if_neg (by omega), upN_n (by omega)]; exact c
  · rw [pu_at, if_pos ⟨rfl, rfl⟩, upN_e]
  · rw [pu_at, if_neg (by omega), upN_n (by omega)]; exact e
  · rw [pu_ne _ _ _ (by omega), pu_ne _ _ _ (by omega), pu_ne _ _ _ (by omega), pu_ne _ _ _ (by omega), pu_ne _ _ _ (by omega), upN_n (by omega), upN_n (by omega), upN_n (by omega), upN_n (by omega), upN_n (by omega)]
    exact f j hj
theorem cH.u4 {o v : Nat} {H : pN} {I : pHI} (h : cH o H I) : cH o (upN H 4 v) (pu I o 11 (nI v)) := by
  obtain ⟨a, b, c, d, e, f⟩ := h
  refine ⟨?_, ?_, ?_, ?_, ?_, fun j hj => ?_⟩
  · rw [pu_at, if_neg (by omega), upN_n (by omega)]; exact a
  · rw [pu_at, if_neg (by omega), upN_n (by omega)]; exact b
  · rw [pu_at, if_neg (by omega), upN_n (by omega)]; exact c
  · rw [pu_at, if_neg (by omega), upN_n (by omega)]; exact d
  · rw [pu_at, if_pos ⟨rfl, rfl⟩, upN_e]
  · rw [pu_ne _ _ _ (by omega), pu_ne _ _ _ (by omega), pu_ne _ _ _ (by omega), pu_ne _ _ _ (by omega), pu_ne _ _ _ (by omega), upN_n (by omega), upN_n (by omega), upN_n (by omega), upN_n (by omega), upN_n (by omega)]
    exact f j hj
set_option maxHeartbeats 400000 in
set_option maxRecDepth 100000 in
theorem L_X2_clear {l : Launch} {X : pX} {t g : Nat} {I : pHI} {J : pHJ} {Q : pQ} {o : Nat} (ho : isH o) (hq : ∀ I1, sHo o I I1 → cH o H9 I1 → cF (o + 6) (dfl 0) I1 → cF (o + 10) (dfl 1) I1 → Q none I1 J (pR t g)) : ∀ (fu : Nat) (j : Nat) (I1 : pHI), 8 - j < fu → (j ≤ 8) → (sHo o I I1 ∧ (I1 o 0 = nI 9 ∧ I1 o 1 = nI 0 ∧ I1 o 2 = nI 0 ∧ I1 o 10 = nI 0 ∧ I1 o 11 = nI 0) ∧ ∀ i, i < j → I1 (o + 1) i = nI 0 ∧ I1 (o + 2) i = nI 0 ∧ I1 (o + 3) i = nI 0 ∧ I1 (o + 4) i = nI 0 ∧ I1 (o + 5) i = nI 0) → pE l X mX2_clear 2 pK 28 [some (.ref o), some (.int (nI j))] [] pK I1 J (pR t g) Q := by
  intro fu
  induction fu with
  | zero => intro j I1 hn; exact absurd hn (Nat.not_lt_zero _)
  | succ fu ih =>
    intro j I1 hn hj hv
    obtain ⟨fHho0, fHho1, fHho2, fHho3, fHho4, fHho5, fHho6, fHho7, fHho8, fHho9, fHho10, fHho11, fHho12, fHho13, fHho14, fHho15, fHho16, fHho17, fHho18, fHho19, fHho20, fHho21, fHho22, fHho23, fHho24, fHho25, fHho26⟩ := HF t g ho
    have hb := isH_b ho
    refine pE_iload_n dX2_clear_28 rfl rfl ?_
    refine pE_bipush (v := nI 8) dX2_clear_29 rfl ?_
    refine pE_icmp_ge (tgt := 75) dX2_clear_31 (by decide) (fun h31 => ?_) (fun h31 => ?_)
    · have g31 := nq_le (by omega) (by omega) h31
      refine pE_aload_n dX2_clear_75 rfl rfl ?_
      refine pE_getR dX2_clear_76 flX2_40 rfl (by first | assumption | rfl) (by first | assumption | rfl) ?_
      refine pE_callV (d' := 0) (as := []) dX2_clear_79 lkX2_56 (cwX1_clear _ _) ivX1_clear ⟨_, rfl, rfl⟩ (by first | assumption | rfl) rfl rfl (Nat.le_of_ble_eq_true rfl) (by decide) pKK ?_
      refine M_X1_clear (isF_c ho) ?_
      refine pE_aload_n dX2_clear_82 rfl rfl ?_
      refine pE_getR dX2_clear_83 flX2_40 rfl (by first | assumption | rfl) (by first | assumption | rfl) ?_
      refine pE_iconst (v := nI 1) dX2_clear_86 rfl ?_
      refine pE_callV (d' := 1) (as := [_]) dX2_clear_87 lkX2_57 (cwX1_add _ _) ivX1_add ⟨_, rfl, rfl⟩ (by first | assumption | rfl) rfl rfl (Nat.le_of_ble_eq_true rfl) (by decide) pKK ?_
      refine M_X1_add (isF_c ho) (fun I2 a1 b1 => ?_)
      refine pE_aload_n dX2_clear_90 rfl rfl ?_
      refine pE_getR dX2_clear_91 flX2_40 rfl (by first | assumption | rfl) (by first | assumption | rfl) ?_
      refine pE_bipush (v := nI 10) dX2_clear_94 rfl ?_
      refine pE_callV (d' := 1) (as := [_]) dX2_clear_96 lkX2_61 (cwX1_addNumber _ _) ivX1_addNumber ⟨_, rfl, rfl⟩ (by first | assumption | rfl) rfl rfl (Nat.le_of_ble_eq_true rfl) (by decide) pKK ?_
      refine M_X1_addNumber (isF_c ho) (fun I3 a2 b2 => ?_)
      refine pE_aload_n dX2_clear_99 rfl rfl ?_
      refine pE_getR dX2_clear_100 flX2_40 rfl (by first | assumption | rfl) (by first | assumption | rfl) ?_
      refine pE_bipush (v := nI 42) dX2_clear_103 rfl ?_
      refine pE_callV (d' := 1) (as := [_]) dX2_clear_105 lkX2_57 (cwX1_add _ _) ivX1_add ⟨_, rfl, rfl⟩ (by first | assumption | rfl) rfl rfl (Nat.le_of_ble_eq_true rfl) (by decide) pKK ?_
      refine M_X1_add (isF_c ho) (fun I4 a3 b3 => ?_)
      refine pE_aload_n dX2_clear_108 rfl rfl ?_
      refine pE_getR dX2_clear_109 flX2_44 rfl (by first | assumption | rfl) (by first | assumption | rfl) ?_
      refine pE_callV (d' := 0) (as := []) dX2_clear_112 lkX2_56 (cwX1_clear _ _) ivX1_clear ⟨_, rfl, rfl⟩ (by first | assumption | rfl) rfl rfl (Nat.le_of_ble_eq_true rfl) (by decide) pKK ?_
      refine M_X1_clear (isF_m ho) ?_
      refine pE_aload_n dX2_clear_115 rfl rfl ?_
      refine pE_getR dX2_clear_116 flX2_44 rfl (by first | assumption | rfl) (by first | assumption | rfl) ?_
      refine pE_iconst (v := nI 5) dX2_clear_119 rfl ?_
      refine pE_callV (d' := 1) (as := [_]) dX2_clear_120 lkX2_57 (cwX1_add _ _) ivX1_add ⟨_, rfl, rfl⟩ (by first | assumption | rfl) rfl rfl (Nat.le_of_ble_eq_true rfl) (by decide) pKK ?_
      refine M_X1_add (isF_m ho) (fun I5 a4 b4 => ?_)
      refine pE_aload_n dX2_clear_123 rfl rfl ?_
      refine pE_getR dX2_clear_124 flX2_44 rfl (by first | assumption | rfl) (by first | assumption | rfl) ?_
      refine pE_bipush (v := nI 10) dX2_clear_127 rfl ?_
      refine pE_callV (d' := 1) (as := [_]) dX2_clear_129 lkX2_61 (cwX1_addNumber _ _) ivX1_addNumber ⟨_, rfl, rfl⟩ (by first | assumption | rfl) rfl rfl (Nat.le_of_ble_eq_true rfl) (by decide) pKK ?_
      refine M_X1_addNumber (isF_m ho) (fun I6 a5 b5 => ?_)
      refine pE_aload_n dX2_clear_132 rfl rfl ?_
      refine pE_getR dX2_clear_133 flX2_44 rfl (by first | assumption | rfl) (by first | assumption | rfl) ?_
      refine pE_bipush (v := nI 47) dX2_clear_136 rfl ?_
      refine pE_callV (d' := 1) (as := [_]) dX2_clear_138 lkX2_57 (cwX1_add _ _) ivX1_add ⟨_, rfl, rfl⟩ (by first | assumption | rfl) rfl rfl (Nat.le_of_ble_eq_true rfl) (by decide) pKK ?_
      refine M_X1_add (isF_m ho) (fun I7 a6 b6 => ?_)
      refine pE_vret dX2_clear_141 rfl rfl ?_
      obtain ⟨v1, v2, v3⟩ := hv
      have s1 : sHo o I1 (pu I1 (o + 6) 2 (nI 0)) := sHo.rf.w (by omega)
      have s4 : sHo o I1 I4 := s1.tr ((a1.ho (Or.inl rfl)).tr ((a2.ho (Or.inl rfl)).tr (a3.ho (Or.inl rfl))))
      have s5 : sHo o I4 (pu I4 (o + 10) 2 (nI 0)) := sHo.rf.w (by omega)
      have s7 : sHo o I4 I7 := s5.tr ((a4.ho (Or.inr rfl)).tr ((a5.ho (Or.inr rfl)).tr (a6.ho (Or.inr rfl))))
      have c1 : cG (o + 6) (dfl 0) I4 := b3 _ (42, 0) rfl rfl (b2 _ (0, 10) rfl rfl (b1 [] (1, 0) rfl rfl (cG.nil (by rw [pu_at, if_pos ⟨rfl, rfl⟩]))))
      have c2 : cG (o + 10) (dfl 1) I7 := b6 _ (47, 0) rfl rfl (b5 _ (0, 10) rfl rfl (b4 [] (5, 0) rfl rfl (cG.nil (by rw [pu_at, if_pos ⟨rfl, rfl⟩]))))
      have g4 : ∀ c k, ¬ (o + 6 ≤ c ∧ c ≤ o + 8) → I4 c k = I1 c k := fun c k z => by
        rw [a3 c k (by omega) (by omega) (by omega), a2 c k (by omega) (by omega) (by omega), a1 c k (by omega) (by omega) (by omega), pu_ne _ _ _ (by omega)]
      have g7 : ∀ c k, ¬ (o + 10 ≤ c ∧ c ≤ o + 12) → I7 c k = I4 c k := fun c k z => by
        rw [a6 c k (by omega) (by omega) (by omega), a5 c k (by omega) (by omega) (by omega), a4 c k (by omega) (by omega) (by omega), pu_ne _ _ _ (by omega)]
      have c3 : cG (o + 6) (dfl 0) I7 := c1.fr (g7 _ _ (by omega)) (fun i => g7 _ _ (by omega)) (fun i => g7 _ _ (by omega))
      refine hq I7 (v1.tr (s4.tr s7)) ⟨?_, ?_, ?_, ?_, ?_, fun i hi => ?_⟩ (c3.cF (by decide) (by unfold okO dfl; decide)) (c2.cF (by decide) (by unfold okO dfl; decide))
      · rw [g7 _ _ (by omega), g4 _ _ (by omega)]; exact v2.1
      · rw [g7 _ _ (by omega), g4 _ _ (by omega)]; exact v2.2.1
      · rw [g7 _ _ (by omega), g4 _ _ (by omega)]; exact v2.2.2.1
      · rw [g7 _ _ (by omega), g4 _ _ (by omega)]; exact v2.2.2.2.1
      · rw [g7 _ _ (by omega), g4 _ _ (by omega)]; exact v2.2.2.2.2
      · rw [g7 _ _ (by omega), g4 _ _ (by omega), g7 _ _ (by omega), g4 _ _ (by omega), g7 _ _ (by omega), g4 _ _ (by omega), g7 _ _ (by omega), g4 _ _ (by omega), g7 _ _ (by omega), g4 _ _ (by omega), H9_0 (by omega), H9_0 (by omega), H9_0 (by omega), H9_0 (by omega), H9_0 (by omega)]
        exact v3 i (by omega)
    · have g31 := nq_nle (by omega) (by omega) h31
      refine pE_aload_n dX2_clear_34 rfl rfl ?_
      refine pE_getR dX2_clear_35 flX2_21 rfl (by first | assumption | rfl) (by first | assumption | rfl) ?_
      refine pE_iload_n dX2_clear_38 rfl rfl ?_
      refine pE_iconst (v := nI 0) dX2_clear_39 rfl ?_
      refine pE_iastoreN dX2_clear_40 (by first | assumption | rfl) (by first | assumption | omega) (by omega) ?_
      refine pE_aload_n dX2_clear_41 rfl rfl ?_
      refine pE_getR dX2_clear_42 flX2_25 rfl (by first | assumption | rfl) (by first | assumption | rfl) ?_
      refine pE_iload_n dX2_clear_45 rfl rfl ?_
      refine pE_iconst (v := nI 0) dX2_clear_46 rfl ?_
      refine pE_iastoreN dX2_clear_47 (by first | assumption | rfl) (by first | assumption | omega) (by omega) ?_
      refine pE_aload_n dX2_clear_48 rfl rfl ?_
      refine pE_getR dX2_clear_49 flX2_28 rfl (by first | assumption | rfl) (by first | assumption | rfl) ?_
      refine pE_iload_n dX2_clear_52 rfl rfl ?_
      refine pE_iconst (v := nI 0) dX2_clear_53 rfl ?_
      refine pE_iastoreN dX2_clear_54 (by first | assumption | rfl) (by first | assumption | omega) (by omega) ?_
      refine pE_aload_n dX2_clear_55 rfl rfl ?_
      refine pE_getR dX2_clear_56 flX2_31 rfl (by first | assumption | rfl) (by first | assumption | rfl) ?_
      refine pE_iload_n dX2_clear_59 rfl rfl ?_
      refine pE_iconst (v := nI 0) dX2_clear_60 rfl ?_
      refine pE_iastoreN dX2_clear_61 (by first | assumption | rfl) (by first | assumption | omega) (by omega) ?_
      refine pE_aload_n dX2_clear_62 rfl rfl ?_
      refine pE_getR dX2_clear_63 flX2_34 rfl (by first | assumption | rfl) (by first | assumption | rfl) ?_
      refine pE_iload_n dX2_clear_66 rfl rfl ?_
      refine pE_iconst (v := nI 0) dX2_clear_67 rfl ?_
      refine pE_iastoreN dX2_clear_68 (by first | assumption | rfl) (by first | assumption | omega) (by omega) ?_
      refine pE_iincN (c0 := 1) (lc' := [_, some (.int _)]) dX2_clear_69 rfl rfl rfl rfl ?_
      refine pE_goto (tgt := 28) dX2_clear_72 (by decide) ?_
      obtain ⟨v1, v2, v3⟩ := hv
      refine ih (j + 1) _ (by omega) (by omega) ⟨((((v1.w (by omega)).w (by omega)).w (by omega)).w (by omega)).w (by omega), ?_, fun i hi => ?_⟩
      · simp only [pu_ne _ _ _ (show o ≠ o + 1 by omega), pu_ne _ _ _ (show o ≠ o + 2 by omega), pu_ne _ _ _ (show o ≠ o + 3 by omega), pu_ne _ _ _ (show o ≠ o + 4 by omega), pu_ne _ _ _ (show o ≠ o + 5 by omega)]
        exact v2
      · refine ⟨?_, ?_, ?_, ?_, ?_⟩
        · rw [pu_at, if_neg (by omega), pu_at, if_neg (by omega), pu_at, if_neg (by omega), pu_at, if_neg (by omega), pu_at]
          split
          · rfl
          · exact (v3 i (by omega)).1
        · rw [pu_at, if_neg (by omega), pu_at, if_neg (by omega), pu_at, if_neg (by omega), pu_at]
          split
          · rfl
          · rw [pu_at, if_neg (by omega)]; exact (v3 i (by omega)).2.1
        · rw [pu_at, if_neg (by omega), pu_at, if_neg (by omega), pu_at]
          split
          · rfl
          · rw [pu_at, if_neg (by omega), pu_at, if_neg (by omega)]; exact (v3 i (by omega)).2.2.1
        · rw [pu_at, if_neg (by omega), pu_at]
          split
          · rfl
          · rw [pu_at, if_neg (by omega), pu_at, if_neg (by omega), pu_at, if_neg (by omega)]; exact (v3 i (by omega)).2.2.2.1
        · rw [pu_at]
          split
          · rfl
          · rw [pu_at, if_neg (by omega), pu_at, if_neg (by omega), pu_at, if_neg (by omega), pu_at, if_neg (by omega)]; exact (v3 i (by omega)).2.2.2.2
set_option maxHeartbeats 400000 in
set_option maxRecDepth 100000 in
theorem M_X2_clear {l : Launch} {X : pX} {t g : Nat} {I : pHI} {J : pHJ} {Q : pQ} {o : Nat} (ho : isH o) (hq : ∀ I1, sHo o I I1 → cH o H9 I1 → cF (o + 6) (dfl 0) I1 → cF (o + 10) (dfl 1) I1 → Q none I1 J (pR t g)) : pM l X yX2_clear mX2_clear 2 [.ref o] pK pK I J (pR t g) Q := by
  obtain ⟨fHho0, fHho1, fHho2, fHho3, fHho4, fHho5, fHho6, fHho7, fHho8, fHho9, fHho10, fHho11, fHho12, fHho13, fHho14, fHho15, fHho16, fHho17, fHho18, fHho19, fHho20, fHho21, fHho22, fHho23, fHho24, fHho25, fHho26⟩ := HF t g ho
  have hb := isH_b ho
  refine pM_of rfl (fun h => by cases h) rfl pKM (Nat.le_of_ble_eq_true rfl) ?_
  refine pE_aload_n dX2_clear_0 rfl rfl ?_
  refine pE_bipush (v := nI 9) dX2_clear_1 rfl ?_
  refine pE_putI dX2_clear_3 flX2_9 ftX2 fiX2_0 rfl rfl (by first | assumption | rfl) ?_
  refine pE_aload_n dX2_clear_6 rfl rfl ?_
  refine pE_iconst (v := nI 0) dX2_clear_7 rfl ?_
  refine pE_putI dX2_clear_8 flX2_15 ftX2 fiX2_1 rfl rfl (by first | assumption | rfl) ?_
  refine pE_aload_n dX2_clear_11 rfl rfl ?_
  refine pE_iconst (v := nI 0) dX2_clear_12 rfl ?_
  refine pE_putI dX2_clear_13 flX2_18 ftX2 fiX2_2 rfl rfl (by first | assumption | rfl) ?_
  refine pE_aload_n dX2_clear_16 rfl rfl ?_
  refine pE_iconst (v := nI 0) dX2_clear_17 rfl ?_
  refine pE_putI dX2_clear_18 flX2_47 ftX2 fiX2_10 rfl rfl (by first | assumption | rfl) ?_
  refine pE_aload_n dX2_clear_21 rfl rfl ?_
  refine pE_iconst (v := nI 0) dX2_clear_22 rfl ?_
  refine pE_putI dX2_clear_23 flX2_50 ftX2 fiX2_11 rfl rfl (by first | assumption | rfl) ?_
  refine pE_iconst (v := nI 0) dX2_clear_26 rfl ?_
  refine pE_istore_n (lc' := [_, some (.int _)]) dX2_clear_27 rfl (Nat.le_of_ble_eq_true rfl) rfl rfl ?_
  refine L_X2_clear ho hq 9 0 _ (by omega) (by omega) ⟨((((sHo.rf.w (by omega)).w (by omega)).w (by omega)).w (by omega)).w (by omega), ⟨?_, ?_, ?_, ?_, ?_⟩, fun i hi => absurd hi (by omega)⟩
  · rw [pu_at, if_neg (by omega), pu_at, if_neg (by omega), pu_at, if_neg (by omega), pu_at, if_neg (by omega), pu_at, if_pos ⟨rfl, rfl⟩]
  · rw [pu_at, if_neg (by omega), pu_at, if_neg (by omega), pu_at, if_neg (by omega), pu_at, if_pos ⟨rfl, rfl⟩]
  · rw [pu_at, if_neg (by omega), pu_at, if_neg (by omega), pu_at, if_pos ⟨rfl, rfl⟩]
  · rw [pu_at, if_neg (by omega), pu_at, if_pos ⟨rfl, rfl⟩]
  · rw [pu_at, if_pos ⟨rfl, rfl⟩]
def sFo (o f : Nat) (I I1 : pHI) : Prop := ∀ c k, ¬ (c = 4 ∧ 2 ≤ k) → ¬ (c = 2 ∧ (k = 2 ∨ 6 ≤ k)) → ¬ (c = f ∧ k = 2) → c ≠ f + 1 → c ≠ f + 2 → ¬ (c = o ∧ k = 11) → I1 c k = I c k
theorem rsO_ps (s : pPS) : rsO s = psR s := by cases s <;> rfl
set_option maxHeartbeats 400000 in
set_option maxRecDepth 100000 in
theorem M_X8_readFormula {l : Launch} {X : pX} {t g : Nat} {I : pHI} {J : pHJ} {Q : pQ} {n o f p : Nat} {B : Nat → Nat} (ho : isH o) (hf : isF f) (hfo : f = o + 6 ∨ f = o + 10) (hT : tpC I n B) (hr : cRd B n I J (.inr p)) (hq : ∀ I1 J1, sFo o f I I1 → j4 J J1 → cRd B n I1 J1 (psR (foP B n p)) → (∀ q, psR (foP B n p) = .inr q → cG f (psO (foP B n p)) I1 ∧ I1 o 11 = I o 11 + nI (psU (foP B n p))) → Q none I1 J1 (pR t g)) : pM l X yX8_readFormula mX8_readFormula 71 [.ref 2, .ref o, .ref f] pK pK I J (pR t g) Q := by
  obtain ⟨fHho0, fHho1, fHho2, fHho3, fHho4, fHho5, fHho6, fHho7, fHho8, fHho9, fHho10, fHho11, fHho12, fHho13, fHho14, fHho15, fHho16, fHho17, fHho18, fHho19, fHho20, fHho21, fHho22, fHho23, fHho24, fHho25, fHho26⟩ := HF t g ho
  obtain ⟨fFf0, fFf1, fFf2, fFf3, fFf4, fFf5, fFf6⟩ := FF t g hf
  have hb := isH_b ho
  have hfb := isF_b hf
  have hfx : f ≠ o ∧ f + 1 ≠ o ∧ f + 2 ≠ o := by omega
  have e2 : ∀ c k, c = 4 ∨ (c = 2 ∧ k ≠ 2) ∨ c = 1 → pu (pu I f 2 (nI 0)) 2 2 (nI 0) c k = I c k := fun c k z => by rw [pu_at, if_neg (by omega), pu_at, if_neg (by omega)]
  have hT0 : tpC (pu (pu I f 2 (nI 0)) 2 2 (nI 0)) n B := hT.r3 hf (fun c k a b d e g => by rw [pu_at, if_neg (by omega), pu_at, if_neg (by omega)])
  have hr0 : cRd B n (pu (pu I f 2 (nI 0)) 2 2 (nI 0)) J (.inr p) := hr.fr (fun k => e2 4 k (by omega)) (e2 2 6 (by omega)) (e2 2 7 (by omega))
  refine pM_of rfl (fun h => by cases h) rfl pKM (Nat.le_of_ble_eq_true rfl) ?_
  refine pE_aload_n dX8_readFormula_0 rfl rfl ?_
  refine pE_callV (d' := 0) (as := []) dX8_readFormula_1 lkX8_170 (cwX1_clear _ _) ivX1_clear ⟨_, rfl, rfl⟩ (by first | assumption | rfl) rfl rfl (Nat.le_of_ble_eq_true rfl) (by decide) pKK ?_
  refine M_X1_clear hf ?_
  refine pE_aload_n dX8_readFormula_4 rfl rfl ?_
  refine pE_iconst (v := nI 0) dX8_readFormula_5 rfl ?_
  refine pE_putI dX8_readFormula_6 flX8_15 ftX8 fiX8_2 rfl rfl (by first | assumption | rfl) ?_
  refine pE_aload_n dX8_readFormula_9 rfl rfl ?_
  refine pE_callV (d' := 6) (as := []) dX8_readFormula_10 lkX8_85 (cwX8_step _ _) ivX8_step ⟨_, rfl, rfl⟩ (by first | assumption | rfl) rfl rfl (Nat.le_of_ble_eq_true rfl) (by decide) pKK ?_
  refine M_X8_stepR hT0 hr0 (fun I1 J1 x1 y1 x2 => ?_)
  have hcs : cPs B n f I1 J1 (liS [] 0 (stp B n p)) := by
    have k0 : cPs B n f (pu (pu I f 2 (nI 0)) 2 2 (nI 0)) J (.inr (p, [], 0)) := ⟨hr0, by rw [pu_at, if_pos ⟨rfl, rfl⟩], Nat.zero_le 30, cG.nil (by rw [pu_at, if_neg (by omega), pu_at, if_pos ⟨rfl, rfl⟩])⟩
    exact k0.li hf x1 x2
  refine pE_aload_n dX8_readFormula_13 rfl rfl ?_
  refine pE_aload_n dX8_readFormula_14 rfl rfl ?_
  refine pE_iconst (v := nI 0) dX8_readFormula_15 rfl ?_
  refine pE_callV (d' := 70) (as := [_, _]) dX8_readFormula_16 lkX8_173 (cwX8_readEither _ _) ivX8_readEither ⟨_, rfl, rfl⟩ (by first | assumption | rfl) rfl rfl (Nat.le_of_ble_eq_true rfl) (by decide) pKK ?_
  refine R_either hf _ _ _ _ (hT0.r3 hf x1.r3) hcs (fun I2 J2 x3 y2 x4 => ?_)
  refine pE_aload_n dX8_readFormula_19 rfl rfl ?_
  refine pE_dupR dX8_readFormula_20 ?_
  refine pE_getI dX8_readFormula_21 flX8_177 rfl (Or.inl rfl) (by first | assumption | rfl) ?_
  refine pE_aload_n dX8_readFormula_24 rfl rfl ?_
  refine pE_getI dX8_readFormula_25 flX8_15 rfl (Or.inl rfl) (by first | assumption | rfl) ?_
  refine pE_iadd dX8_readFormula_28 ?_
  refine pE_putI dX8_readFormula_29 flX8_177 ftX2 fiX2_11 rfl rfl (by first | assumption | rfl) ?_
  refine pE_vret dX8_readFormula_32 rfl rfl ?_
  have x5 := x4.rd
  rw [rsO_ps] at x5
  refine hq _ J2 (fun c k a1 a2 a3 a4 a5 a6 => ?_) (y1.tr y2) (x5.fr (fun k => by rw [pu_ne _ _ _ (by omega)]) (by rw [pu_at, if_neg (by omega)]) (by rw [pu_at, if_neg (by omega)])) (fun q hq2 => ?_)
  · rw [pu_at, if_neg (by omega), x3 c k (by omega) (by omega) (by omega) (by omega) (by omega), x1 c k (by omega) (by omega), pu_at, if_neg (by omega), pu_at, if_neg (by omega)]
  · have e0 : foS B n (liS [] 0 (stp B n p)) = foP B n p := rfl
    rw [e0] at x4
    cases e : foP B n p with
    | inl z => rw [e] at hq2; cases hq2
    | inr z =>
      rw [e] at x4
      refine ⟨x4.2.2.2.fr (by rw [pu_at, if_neg (by omega)]) (fun i => by rw [pu_ne _ _ _ (by omega)]) (fun i => by rw [pu_ne _ _ _ (by omega)]), ?_⟩
      rw [pu_at, if_pos ⟨rfl, rfl⟩, x4.2.1, x3 o 11 (by omega) (by omega) (by omega) (by omega) (by omega), x1 o 11 (by omega) (by omega), pu_at, if_neg (by omega), pu_at, if_neg (by omega)]
      rfl
