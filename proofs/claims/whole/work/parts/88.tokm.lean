/-! the model's TOKENS -/
def tpM (I : pHI) (n : Nat) (B : Nat → Nat) : Prop := I 67 5 = nI n ∧ n ≤ 1600 ∧ ∀ i, i < n → I 68 i = nI (B i) ∧ B i < 256
def sMT (I I1 : pHI) : Prop := ∀ c k, ¬ (c = 67 ∧ (k = 4 ∨ (6 ≤ k ∧ k ≤ 8))) → I1 c k = I c k
theorem sMT.rf {I : pHI} : sMT I I := fun _ _ _ => rfl
theorem sMT.tr {I I1 I2 : pHI} (h1 : sMT I I1) (h2 : sMT I1 I2) : sMT I I2 := fun c k a => (h2 c k a).trans (h1 c k a)
theorem sMT.pu {I I1 : pHI} {k : Nat} {x : Int32} (h : sMT I I1) (hk : k = 4 ∨ (6 ≤ k ∧ k ≤ 8)) : sMT I (pu I1 67 k x) := fun c j a => by
  rw [pu_at, if_neg (fun q => a ⟨q.1, by omega⟩)]; exact h c j a
def jM (J J1 : pHJ) : Prop := ∀ c k, ¬ (c = 67 ∧ k = 9) → J1 c k = J c k
theorem jM.rf {J : pHJ} : jM J J := fun _ _ _ => rfl
theorem jM.tr {I I1 I2 : pHJ} (h1 : jM I I1) (h2 : jM I1 I2) : jM I I2 := fun c k a => (h2 c k a).trans (h1 c k a)
theorem jM.pu {J J1 : pHJ} {x : Int64} (h : jM J J1) : jM J (pu J1 67 9 x) := fun c j a => by
  rw [pu_at, if_neg a]; exact h c j a
theorem tpM.sMT {I I1 : pHI} {n : Nat} {B : Nat → Nat} (h : tpM I n B) (hx : sMT I I1) : tpM I1 n B := ⟨by rw [hx 67 5 (by omega)]; exact h.1, h.2.1, fun i hi => by rw [hx 68 i (by omega)]; exact h.2.2 i hi⟩
theorem cbB_leM {I : pHI} {n : Nat} {B : Nat → Nat} (h : tpM I n B) (p : Nat) : cbB B n p ≤ 256 := by
  unfold cbB
  split
  · have := (h.2.2 p (by assumption)).2; omega
  · omega
def mKd (B : Nat → Nat) (n p : Nat) : Nat := if tK B n p = 4 then tC B n p else if tK B n p = 1 then 3 else if tK B n p = 2 then 1 else if tK B n p = 3 then 2 else 0
def tkM (B : Nat → Nat) (n p : Nat) (I : pHI) (J : pHJ) : Prop := I 67 6 = nI (mKd B n p) ∧ I 67 7 = nI (tQ B n p) ∧ (tK B n p ≠ 1 → I 67 4 = nI (tE B n p)) ∧ (tK B n p = 3 → I 67 8 = nI (tV B n p)) ∧ (tK B n p = 2 → J 67 9 = mwJ (tL B n p))
theorem bI_eq {c k : Nat} (hc : c ≤ 256) (hk : k < 256) : bI c = nI k ↔ c = k := by
  by_cases e : c = 256
  · subst e
    refine ⟨fun z => absurd z.symm (nI_mm hk), fun z => by omega⟩
  · rw [bI_n (by omega)]; exact nI_eq (by omega) (by omega)
theorem bI_ge {c : Nat} (hc : c ≤ 256) : 0 ≤ bI c ↔ c < 256 := by
  by_cases e : c = 256
  · subst e
    exact ⟨fun z => absurd z (by decide), fun z => by omega⟩
  · rw [bI_n (by omega)]; exact ⟨fun _ => by omega, fun _ => nI_pos' (by omega)⟩
set_option maxHeartbeats 400000 in
set_option maxRecDepth 100000 in
theorem M_X12_here {l : Launch} {X : pX} {t g : Nat} {I : pHI} {J : pHJ} {Q : pQ} {n a k : Nat} {B : Nat → Nat} (hT : tpM I n B) (ha : I 67 4 = nI a) (hk : a + k < 2 ^ 31) (hq : Q (some (.int (bI (cbB B n (a + k))))) I J (pR t g)) : pM l X yX12_here mX12_here 0 [.ref 67, .int (nI k)] pK pK I J (pR t g) Q := by
  have hn := hT.2.1
  refine pM_of rfl (fun h => by cases h) rfl pKM (Nat.le_of_ble_eq_true rfl) ?_
  refine pE_aload_n dX12_here_0 rfl rfl ?_
  refine pE_getI dX12_here_1 flX12_149 rfl (Or.inl rfl) (by first | assumption | rfl) ?_
  rw [ha]
  refine pE_iload_n dX12_here_4 rfl rfl ?_
  refine pE_iaddN dX12_here_5 ?_
  refine pE_aload_n dX12_here_6 rfl rfl ?_
  refine pE_getI dX12_here_7 flX12_152 rfl (Or.inl rfl) (by first | assumption | rfl) ?_
  rw [hT.1]
  refine pE_icmp_ge (tgt := 27) dX12_here_10 (by decide) (fun h10 => ?_) (fun h10 => ?_)
  · have g10 := nq_le (by omega) (by omega) h10
    refine pE_iconst (v := -1) dX12_here_27 rfl ?_
    refine pE_iret dX12_here_28 rfl rfl ?_
    first
    | (rw [cbB_e (by omega)] at hq; exact hq)
    | (rw [cbB_i (by omega), bI_n (hT.2.2 (a + k) (by omega)).2, ← (hT.2.2 (a + k) (by omega)).1] at hq; exact hq)
  · have g10 := nq_nle (by omega) (by omega) h10
    refine pE_aload_n dX12_here_13 rfl rfl ?_
    refine pE_getR dX12_here_14 flX12_7 rfl (by first | assumption | rfl) (by first | assumption | rfl) ?_
    refine pE_aload_n dX12_here_17 rfl rfl ?_
    refine pE_getI dX12_here_18 flX12_149 rfl (Or.inl rfl) (by first | assumption | rfl) ?_
    rw [ha]
    refine pE_iload_n dX12_here_21 rfl rfl ?_
    refine pE_iaddN dX12_here_22 ?_
    refine pE_ialoadN dX12_here_23 (by first | assumption | rfl) (by first | assumption | omega) (by omega) ?_
    refine pE_goto (tgt := 28) dX12_here_24 (by decide) ?_
    refine pE_iret dX12_here_28 rfl rfl ?_
    first
    | (rw [cbB_e (by omega)] at hq; exact hq)
    | (rw [cbB_i (by omega), bI_n (hT.2.2 (a + k) (by omega)).2, ← (hT.2.2 (a + k) (by omega)).1] at hq; exact hq)
set_option maxHeartbeats 400000 in
set_option maxRecDepth 100000 in
theorem M_X12_isLetterE {l : Launch} {X : pX} {t g : Nat} {I : pHI} {J : pHJ} {Q : pQ}  (hq : Q (some (.int (nI 0))) I J (pR t g)) : pM l X yX12_isLetter mX12_isLetter 0 [.int (-1)] pK pK I J (pR t g) Q := by
  refine pM_of rfl (fun h => by cases h) rfl pKM (Nat.le_of_ble_eq_true rfl) ?_
  refine pE_iload_n dX12_isLetter_0 rfl rfl ?_
  refine pE_bipush (v := nI 97) dX12_isLetter_1 rfl ?_
  refine pE_icmp_lt (tgt := 16) dX12_isLetter_3 (by decide) (fun h3 => ?_) (fun h3 => ?_)
  · refine pE_iconst (v := nI 0) dX12_isLetter_16 rfl ?_
    refine pE_zret dX12_isLetter_17 rfl (by first | exact Or.inl nI_0 | exact Or.inr nI_1') rfl ?_
    exact hq
  · exact absurd (by decide) h3
set_option maxHeartbeats 400000 in
set_option maxRecDepth 100000 in
theorem M_X12_isLetterB {l : Launch} {X : pX} {t g : Nat} {I : pHI} {J : pHJ} {Q : pQ} {c : Nat} (hc : c < 256) (h1 : sortC c = 2 → Q (some (.int (nI 1))) I J (pR t g)) (h0 : sortC c ≠ 2 → Q (some (.int (nI 0))) I J (pR t g)) : pM l X yX12_isLetter mX12_isLetter 0 [.int (nI c)] pK pK I J (pR t g) Q := by
  refine pM_of rfl (fun h => by cases h) rfl pKM (Nat.le_of_ble_eq_true rfl) ?_
  refine pE_iload_n dX12_isLetter_0 rfl rfl ?_
  refine pE_bipush (v := nI 97) dX12_isLetter_1 rfl ?_
  refine pE_icmp_lt (tgt := 16) dX12_isLetter_3 (by decide) (fun h3 => ?_) (fun h3 => ?_)
  · have g3 := nq_lt (by omega) (by omega) h3
    refine pE_iconst (v := nI 0) dX12_isLetter_16 rfl ?_
    refine pE_zret dX12_isLetter_17 rfl (by first | exact Or.inl nI_0 | exact Or.inr nI_1') rfl ?_
    first
    | exact h1 (sort_2.mpr ⟨by omega, by omega⟩)
    | exact h0 (fun z => by have := sort_2.mp z; omega)
  · have g3 := nq_nlt (by omega) (by omega) h3
    refine pE_iload_n dX12_isLetter_6 rfl rfl ?_
    refine pE_bipush (v := nI 122) dX12_isLetter_7 rfl ?_
    refine pE_icmp_gt (tgt := 16) dX12_isLetter_9 (by decide) (fun h9 => ?_) (fun h9 => ?_)
    · have g9 := nq_lt (by omega) (by omega) h9
      refine pE_iconst (v := nI 0) dX12_isLetter_16 rfl ?_
      refine pE_zret dX12_isLetter_17 rfl (by first | exact Or.inl nI_0 | exact Or.inr nI_1') rfl ?_
      first
      | exact h1 (sort_2.mpr ⟨by omega, by omega⟩)
      | exact h0 (fun z => by have := sort_2.mp z; omega)
    · have g9 := nq_nlt (by omega) (by omega) h9
      refine pE_iconst (v := nI 1) dX12_isLetter_12 rfl ?_
      refine pE_goto (tgt := 17) dX12_isLetter_13 (by decide) ?_
      refine pE_zret dX12_isLetter_17 rfl (by first | exact Or.inl nI_0 | exact Or.inr nI_1') rfl ?_
      first
      | exact h1 (sort_2.mpr ⟨by omega, by omega⟩)
      | exact h0 (fun z => by have := sort_2.mp z; omega)
set_option maxHeartbeats 400000 in
set_option maxRecDepth 100000 in
theorem M_X12_isLetter {l : Launch} {X : pX} {t g : Nat} {I : pHI} {J : pHJ} {Q : pQ} {c : Nat} (hc : c ≤ 256) (h1 : sortC c = 2 → Q (some (.int (nI 1))) I J (pR t g)) (h0 : sortC c ≠ 2 → Q (some (.int (nI 0))) I J (pR t g)) : pM l X yX12_isLetter mX12_isLetter 0 [.int (bI c)] pK pK I J (pR t g) Q := by
  by_cases e : c = 256
  · subst e
    exact M_X12_isLetterE (h0 (by decide))
  · rw [bI_n (by omega)]
    exact M_X12_isLetterB (by omega) h1 h0
set_option maxHeartbeats 400000 in
set_option maxRecDepth 100000 in
theorem M_X12_isDigitE {l : Launch} {X : pX} {t g : Nat} {I : pHI} {J : pHJ} {Q : pQ}  (hq : Q (some (.int (nI 0))) I J (pR t g)) : pM l X yX12_isDigit mX12_isDigit 0 [.int (-1)] pK pK I J (pR t g) Q := by
  refine pM_of rfl (fun h => by cases h) rfl pKM (Nat.le_of_ble_eq_true rfl) ?_
  refine pE_iload_n dX12_isDigit_0 rfl rfl ?_
  refine pE_bipush (v := nI 48) dX12_isDigit_1 rfl ?_
  refine pE_icmp_lt (tgt := 16) dX12_isDigit_3 (by decide) (fun h3 => ?_) (fun h3 => ?_)
  · refine pE_iconst (v := nI 0) dX12_isDigit_16 rfl ?_
    refine pE_zret dX12_isDigit_17 rfl (by first | exact Or.inl nI_0 | exact Or.inr nI_1') rfl ?_
    exact hq
  · exact absurd (by decide) h3
set_option maxHeartbeats 400000 in
set_option maxRecDepth 100000 in
theorem M_X12_isDigitB {l : Launch} {X : pX} {t g : Nat} {I : pHI} {J : pHJ} {Q : pQ} {c : Nat} (hc : c < 256) (h1 : sortC c = 3 → Q (some (.int (nI 1))) I J (pR t g)) (h0 : sortC c ≠ 3 → Q (some (.int (nI 0))) I J (pR t g)) : pM l X yX12_isDigit mX12_isDigit 0 [.int (nI c)] pK pK I J (pR t g) Q := by
  refine pM_of rfl (fun h => by cases h) rfl pKM (Nat.le_of_ble_eq_true rfl) ?_
  refine pE_iload_n dX12_isDigit_0 rfl rfl ?_
  refine pE_bipush (v := nI 48) dX12_isDigit_1 rfl ?_
  refine pE_icmp_lt (tgt := 16) dX12_isDigit_3 (by decide) (fun h3 => ?_) (fun h3 => ?_)
  · have g3 := nq_lt (by omega) (by omega) h3
    refine pE_iconst (v := nI 0) dX12_isDigit_16 rfl ?_
    refine pE_zret dX12_isDigit_17 rfl (by first | exact Or.inl nI_0 | exact Or.inr nI_1') rfl ?_
    first
    | exact h1 (sort_3.mpr ⟨by omega, by omega⟩)
    | exact h0 (fun z => by have := sort_3.mp z; omega)
  · have g3 := nq_nlt (by omega) (by omega) h3
    refine pE_iload_n dX12_isDigit_6 rfl rfl ?_
    refine pE_bipush (v := nI 57) dX12_isDigit_7 rfl ?_
    refine pE_icmp_gt (tgt := 16) dX12_isDigit_9 (by decide) (fun h9 => ?_) (fun h9 => ?_)
    · have g9 := nq_lt (by omega) (by omega) h9
      refine pE_iconst (v := nI 0) dX12_isDigit_16 rfl ?_
      refine pE_zret dX12_isDigit_17 rfl (by first | exact Or.inl nI_0 | exact Or.inr nI_1') rfl ?_
      first
      | exact h1 (sort_3.mpr ⟨by omega, by omega⟩)
      | exact h0 (fun z => by have := sort_3.mp z; omega)
    · have g9 := nq_nlt (by omega) (by omega) h9
      refine pE_iconst (v := nI 1) dX12_isDigit_12 rfl ?_
      refine pE_goto (tgt := 17) dX12_isDigit_13 (by decide) ?_
      refine pE_zret dX12_isDigit_17 rfl (by first | exact Or.inl nI_0 | exact Or.inr nI_1') rfl ?_
      first
      | exact h1 (sort_3.mpr ⟨by omega, by omega⟩)
      | exact h0 (fun z => by have := sort_3.mp z; omega)
set_option maxHeartbeats 400000 in
set_option maxRecDepth 100000 in
theorem M_X12_isDigit {l : Launch} {X : pX} {t g : Nat} {I : pHI} {J : pHJ} {Q : pQ} {c : Nat} (hc : c ≤ 256) (h1 : sortC c = 3 → Q (some (.int (nI 1))) I J (pR t g)) (h0 : sortC c ≠ 3 → Q (some (.int (nI 0))) I J (pR t g)) : pM l X yX12_isDigit mX12_isDigit 0 [.int (bI c)] pK pK I J (pR t g) Q := by
  by_cases e : c = 256
  · subst e
    exact M_X12_isDigitE (h0 (by decide))
  · rw [bI_n (by omega)]
    exact M_X12_isDigitB (by omega) h1 h0
set_option maxHeartbeats 400000 in
set_option maxRecDepth 100000 in
theorem M_X12_isSign {l : Launch} {X : pX} {t g : Nat} {I : pHI} {J : pHJ} {Q : pQ} {c : Nat} (hc : c < 256) (h1 : sgB c = true → Q (some (.int (nI 1))) I J (pR t g)) (h0 : ¬ sgB c = true → Q (some (.int (nI 0))) I J (pR t g)) : pM l X yX12_isSign mX12_isSign 0 [.int (nI c)] pK pK I J (pR t g) Q := by
  refine pM_of rfl (fun h => by cases h) rfl pKM (Nat.le_of_ble_eq_true rfl) ?_
  refine pE_iload_n dX12_isSign_0 rfl rfl ?_
  refine pE_bipush (v := nI 59) dX12_isSign_1 rfl ?_
  refine pE_icmp_eq (tgt := 66) dX12_isSign_3 (by decide) (fun h3 => ?_) (fun h3 => ?_)
  · have g3 := nq_eq (by omega) (by omega) h3
    refine pE_iconst (v := nI 1) dX12_isSign_66 rfl ?_
    refine pE_goto (tgt := 71) dX12_isSign_67 (by decide) ?_
    refine pE_zret dX12_isSign_71 rfl (by first | exact Or.inl nI_0 | exact Or.inr nI_1') rfl ?_
    first
    | exact h1 (by subst_vars; decide)
    | exact h0 (fun z => by
        simp only [sgB, Bool.or_eq_true, beq_iff_eq] at z
        omega)
  · have g3 := nq_ne (by omega) (by omega) h3
    refine pE_iload_n dX12_isSign_6 rfl rfl ?_
    refine pE_bipush (v := nI 40) dX12_isSign_7 rfl ?_
    refine pE_icmp_eq (tgt := 66) dX12_isSign_9 (by decide) (fun h9 => ?_) (fun h9 => ?_)
    · have g9 := nq_eq (by omega) (by omega) h9
      refine pE_iconst (v := nI 1) dX12_isSign_66 rfl ?_
      refine pE_goto (tgt := 71) dX12_isSign_67 (by decide) ?_
      refine pE_zret dX12_isSign_71 rfl (by first | exact Or.inl nI_0 | exact Or.inr nI_1') rfl ?_
      first
      | exact h1 (by subst_vars; decide)
      | exact h0 (fun z => by
          simp only [sgB, Bool.or_eq_true, beq_iff_eq] at z
          omega)
    · have g9 := nq_ne (by omega) (by omega) h9
      refine pE_iload_n dX12_isSign_12 rfl rfl ?_
      refine pE_bipush (v := nI 41) dX12_isSign_13 rfl ?_
      refine pE_icmp_eq (tgt := 66) dX12_isSign_15 (by decide) (fun h15 => ?_) (fun h15 => ?_)
      · have g15 := nq_eq (by omega) (by omega) h15
        refine pE_iconst (v := nI 1) dX12_isSign_66 rfl ?_
        refine pE_goto (tgt := 71) dX12_isSign_67 (by decide) ?_
        refine pE_zret dX12_isSign_71 rfl (by first | exact Or.inl nI_0 | exact Or.inr nI_1') rfl ?_
        first
        | exact h1 (by subst_vars; decide)
        | exact h0 (fun z => by
            simp only [sgB, Bool.or_eq_true, beq_iff_eq] at z
            omega)
      · have g15 := nq_ne (by omega) (by omega) h15
        refine pE_iload_n dX12_isSign_18 rfl rfl ?_
        refine pE_bipush (v := nI 60) dX12_isSign_19 rfl ?_
        refine pE_icmp_eq (tgt := 66) dX12_isSign_21 (by decide) (fun h21 => ?_) (fun h21 => ?_)
        · have g21 := nq_eq (by omega) (by omega) h21
          refine pE_iconst (v := nI 1) dX12_isSign_66 rfl ?_
          refine pE_goto (tgt := 71) dX12_isSign_67 (by decide) ?_
          refine pE_zret dX12_isSign_71 rfl (by first | exact Or.inl nI_0 | exact Or.inr nI_1') rfl ?_
          first
          | exact h1 (by subst_vars; decide)
          | exact h0 (fun z => by
              simp only [sgB, Bool.or_eq_true, beq_iff_eq] at z
              omega)
        · have g21 := nq_ne (by omega) (by omega) h21
          refine pE_iload_n dX12_isSign_24 rfl rfl ?_
          refine pE_bipush (v := nI 62) dX12_isSign_25 rfl ?_
          refine pE_icmp_eq (tgt := 66) dX12_isSign_27 (by decide) (fun h27 => ?_) (fun h27 => ?_)
          · have g27 := nq_eq (by omega) (by omega) h27
            refine pE_iconst (v := nI 1) dX12_isSign_66 rfl ?_
            refine pE_goto (tgt := 71) dX12_isSign_67 (by decide) ?_
            refine pE_zret dX12_isSign_71 rfl (by first | exact Or.inl nI_0 | exact Or.inr nI_1') rfl ?_
            first
            | exact h1 (by subst_vars; decide)
            | exact h0 (fun z => by
                simp only [sgB, Bool.or_eq_true, beq_iff_eq] at z
                omega)
          · have g27 := nq_ne (by omega) (by omega) h27
            refine pE_iload_n dX12_isSign_30 rfl rfl ?_
            refine pE_bipush (v := nI 61) dX12_isSign_31 rfl ?_
            refine pE_icmp_eq (tgt := 66) dX12_isSign_33 (by decide) (fun h33 => ?_) (fun h33 => ?_)
            · have g33 := nq_eq (by omega) (by omega) h33
              refine pE_iconst (v := nI 1) dX12_isSign_66 rfl ?_
              refine pE_goto (tgt := 71) dX12_isSign_67 (by decide) ?_
              refine pE_zret dX12_isSign_71 rfl (by first | exact Or.inl nI_0 | exact Or.inr nI_1') rfl ?_
              first
              | exact h1 (by subst_vars; decide)
              | exact h0 (fun z => by
                  simp only [sgB, Bool.or_eq_true, beq_iff_eq] at z
                  omega)
            · have g33 := nq_ne (by omega) (by omega) h33
              refine pE_iload_n dX12_isSign_36 rfl rfl ?_
              refine pE_bipush (v := nI 43) dX12_isSign_37 rfl ?_
              refine pE_icmp_eq (tgt := 66) dX12_isSign_39 (by decide) (fun h39 => ?_) (fun h39 => ?_)
              · have g39 := nq_eq (by omega) (by omega) h39
                refine pE_iconst (v := nI 1) dX12_isSign_66 rfl ?_
                refine pE_goto (tgt := 71) dX12_isSign_67 (by decide) ?_
                refine pE_zret dX12_isSign_71 rfl (by first | exact Or.inl nI_0 | exact Or.inr nI_1') rfl ?_
                first
                | exact h1 (by subst_vars; decide)
                | exact h0 (fun z => by
                    simp only [sgB, Bool.or_eq_true, beq_iff_eq] at z
                    omega)
              · have g39 := nq_ne (by omega) (by omega) h39
                refine pE_iload_n dX12_isSign_42 rfl rfl ?_
                refine pE_bipush (v := nI 45) dX12_isSign_43 rfl ?_
                refine pE_icmp_eq (tgt := 66) dX12_isSign_45 (by decide) (fun h45 => ?_) (fun h45 => ?_)
                · have g45 := nq_eq (by omega) (by omega) h45
                  refine pE_iconst (v := nI 1) dX12_isSign_66 rfl ?_
                  refine pE_goto (tgt := 71) dX12_isSign_67 (by decide) ?_
                  refine pE_zret dX12_isSign_71 rfl (by first | exact Or.inl nI_0 | exact Or.inr nI_1') rfl ?_
                  first
                  | exact h1 (by subst_vars; decide)
                  | exact h0 (fun z => by
                      simp only [sgB, Bool.or_eq_true, beq_iff_eq] at z
                      omega)
                · have g45 := nq_ne (by omega) (by omega) h45
                  refine pE_iload_n dX12_isSign_48 rfl rfl ?_
                  refine pE_bipush (v := nI 42) dX12_isSign_49 rfl ?_
                  refine pE_icmp_eq (tgt := 66) dX12_isSign_51 (by decide) (fun h51 => ?_) (fun h51 => ?_)
                  · have g51 := nq_eq (by omega) (by omega) h51
                    refine pE_iconst (v := nI 1) dX12_isSign_66 rfl ?_
                    refine pE_goto (tgt := 71) dX12_isSign_67 (by decide) ?_
                    refine pE_zret dX12_isSign_71 rfl (by first | exact Or.inl nI_0 | exact Or.inr nI_1') rfl ?_
                    first
                    | exact h1 (by subst_vars; decide)
                    | exact h0 (fun z => by
                        simp only [sgB, Bool.or_eq_true, beq_iff_eq] at z
                        omega)
                  · have g51 := nq_ne (by omega) (by omega) h51
                    refine pE_iload_n dX12_isSign_54 rfl rfl ?_
                    refine pE_bipush (v := nI 47) dX12_isSign_55 rfl ?_
                    refine pE_icmp_eq (tgt := 66) dX12_isSign_57 (by decide) (fun h57 => ?_) (fun h57 => ?_)
                    · have g57 := nq_eq (by omega) (by omega) h57
                      refine pE_iconst (v := nI 1) dX12_isSign_66 rfl ?_
                      refine pE_goto (tgt := 71) dX12_isSign_67 (by decide) ?_
                      refine pE_zret dX12_isSign_71 rfl (by first | exact Or.inl nI_0 | exact Or.inr nI_1') rfl ?_
                      first
                      | exact h1 (by subst_vars; decide)
                      | exact h0 (fun z => by
                          simp only [sgB, Bool.or_eq_true, beq_iff_eq] at z
                          omega)
                    · have g57 := nq_ne (by omega) (by omega) h57
                      refine pE_iload_n dX12_isSign_60 rfl rfl ?_
                      refine pE_bipush (v := nI 37) dX12_isSign_61 rfl ?_
                      refine pE_icmp_ne (tgt := 70) dX12_isSign_63 (by decide) (fun h63 => ?_) (fun h63 => ?_)
                      · have g63 := nq_ne (by omega) (by omega) h63
                        refine pE_iconst (v := nI 0) dX12_isSign_70 rfl ?_
                        refine pE_zret dX12_isSign_71 rfl (by first | exact Or.inl nI_0 | exact Or.inr nI_1') rfl ?_
                        first
                        | exact h1 (by subst_vars; decide)
                        | exact h0 (fun z => by
                            simp only [sgB, Bool.or_eq_true, beq_iff_eq] at z
                            omega)
                      · have g63 := nq_eq (by omega) (by omega) h63
                        refine pE_iconst (v := nI 1) dX12_isSign_66 rfl ?_
                        refine pE_goto (tgt := 71) dX12_isSign_67 (by decide) ?_
                        refine pE_zret dX12_isSign_71 rfl (by first | exact Or.inl nI_0 | exact Or.inr nI_1') rfl ?_
                        first
                        | exact h1 (by subst_vars; decide)
                        | exact h0 (fun z => by
                            simp only [sgB, Bool.or_eq_true, beq_iff_eq] at z
                            omega)
