set_option maxHeartbeats 400000 in
set_option maxRecDepth 100000 in
theorem M_X0_counts {l : Launch} {X : pX} {t g : Nat} {I : pHI} {J : pHJ} {Q : pQ} {i : Nat} {k : Int32} {m u : Nat} {M : pMk} {H : pN} (hM : cM I m u M) (hrM : rM H m u M) (hi : i < m) (h1 : cnM M k i → Q (some (.int (nI 1))) I J (pR t g)) (h0 : ¬ cnM M k i → Q (some (.int (nI 0))) I J (pR t g)) : pM l X yX0_counts mX0_counts 0 [.ref 47, .int (nI i), .int k] pK pK I J (pR t g) Q := by
  have hm30 := hrM.1
  have hb := (hrM.2.2 i hi).2.2.2
  refine pM_of rfl (fun h => by cases h) rfl pKM (Nat.le_of_ble_eq_true rfl) ?_
  refine pE_aload_n dX0_counts_0 rfl rfl ?_
  refine pE_getR dX0_counts_1 flX0_22 rfl (by first | assumption | rfl) (by first | assumption | rfl) ?_
  refine pE_iload_n dX0_counts_4 rfl rfl ?_
  refine pE_ialoadN dX0_counts_5 (by first | assumption | rfl) (by first | assumption | omega) (by omega) ?_
  rw [(hM.2.2 i hi).2.2.2.1]
  refine pE_iload_n dX0_counts_6 rfl rfl ?_
  refine pE_icmp_gt (tgt := 34) dX0_counts_7 (by decide) (fun h7 => ?_) (fun h7 => ?_)
  · refine pE_iconst (v := nI 0) dX0_counts_34 rfl ?_
    refine pE_zret dX0_counts_35 rfl (by first | exact Or.inl nI_0 | exact Or.inr nI_1' | assumption) rfl ?_
    exact h0 (fun h => h.1 h7)
  · cases e : (M i).2.2.2.2 with
    | none =>
      have c1 : cnM M k i := ⟨h7, fun v hv => by rw [e] at hv; simp at hv⟩
      refine pE_aload_n dX0_counts_10 rfl rfl ?_
      refine pE_getR dX0_counts_11 flX0_25 rfl (by first | assumption | rfl) (by first | assumption | rfl) ?_
      refine pE_iload_n dX0_counts_14 rfl rfl ?_
      refine pE_ialoadN dX0_counts_15 (by first | assumption | rfl) (by first | assumption | omega) (by omega) ?_
      rw [(hM.2.2 i hi).2.2.2.2, e, show oI none = (-1 : Int32) from rfl]
      refine pE_iconst (v := -1) dX0_counts_16 rfl ?_
      refine pE_icmp_eq (tgt := 30) dX0_counts_17 (by decide) (fun h17 => ?_) (fun h17 => ?_)
      · refine pE_iconst (v := nI 1) dX0_counts_30 rfl ?_
        refine pE_goto (tgt := 35) dX0_counts_31 (by decide) ?_
        refine pE_zret dX0_counts_35 rfl (by first | exact Or.inl nI_0 | exact Or.inr nI_1' | assumption) rfl ?_
        exact h1 c1
      · exact absurd rfl h17
    | some v =>
      have hv5 := hb v e
      refine pE_aload_n dX0_counts_10 rfl rfl ?_
      refine pE_getR dX0_counts_11 flX0_25 rfl (by first | assumption | rfl) (by first | assumption | rfl) ?_
      refine pE_iload_n dX0_counts_14 rfl rfl ?_
      refine pE_ialoadN dX0_counts_15 (by first | assumption | rfl) (by first | assumption | omega) (by omega) ?_
      rw [(hM.2.2 i hi).2.2.2.2, e, show oI (some v) = nI v from rfl]
      refine pE_iconst (v := -1) dX0_counts_16 rfl ?_
      refine pE_icmp_eq (tgt := 30) dX0_counts_17 (by decide) (fun h17 => ?_) (fun h17 => ?_)
      · exact absurd h17 (nI_m1n (by omega))
      · refine pE_aload_n dX0_counts_20 rfl rfl ?_
        refine pE_getR dX0_counts_21 flX0_25 rfl (by first | assumption | rfl) (by first | assumption | rfl) ?_
        refine pE_iload_n dX0_counts_24 rfl rfl ?_
        refine pE_ialoadN dX0_counts_25 (by first | assumption | rfl) (by first | assumption | omega) (by omega) ?_
        rw [(hM.2.2 i hi).2.2.2.2, e, show oI (some v) = nI v from rfl]
        refine pE_iload_n dX0_counts_26 rfl rfl ?_
        refine pE_icmp_le (tgt := 34) dX0_counts_27 (by decide) (fun h27 => ?_) (fun h27 => ?_)
        · refine pE_iconst (v := nI 0) dX0_counts_34 rfl ?_
          refine pE_zret dX0_counts_35 rfl (by first | exact Or.inl nI_0 | exact Or.inr nI_1' | assumption) rfl ?_
          first
          | exact h0 (fun h => h.2 v e h27)
          | exact h1 ⟨h7, fun w hw => by rw [e] at hw; cases hw; exact h27⟩
        · refine pE_iconst (v := nI 1) dX0_counts_30 rfl ?_
          refine pE_goto (tgt := 35) dX0_counts_31 (by decide) ?_
          refine pE_zret dX0_counts_35 rfl (by first | exact Or.inl nI_0 | exact Or.inr nI_1' | assumption) rfl ?_
          first
          | exact h0 (fun h => h.2 v e h27)
          | exact h1 ⟨h7, fun w hw => by rw [e] at hw; cases hw; exact h27⟩
/-- what looking at marks may write -/
def sC (I I' : pHI) : Prop := ∀ c k, ¬ (c = 47 ∧ 7 ≤ k) → c ≠ 53 → I' c k = I c k
theorem sC.rf {I : pHI} : sC I I := fun _ _ _ _ => rfl
theorem sC.tr {I I1 I2 : pHI} (h1 : sC I I1) (h2 : sC I1 I2) : sC I I2 := fun c k a b => (h2 c k a b).trans (h1 c k a b)
theorem sC.p47 {I I1 : pHI} {k : Nat} {x : Int32} (h : sC I I1) (hk : 7 ≤ k) : sC I (pu I1 47 k x) := fun c' k' a b => by
  rw [pu_at, if_neg (fun q => a (by rw [q.1, q.2]; exact ⟨rfl, hk⟩))]; exact h c' k' a b
theorem sC.p53 {I I1 : pHI} {k : Nat} {x : Int32} (h : sC I I1) : sC I (pu I1 53 k x) := fun c' k' a b => by
  rw [pu_ne _ _ _ b]; exact h c' k' a b
theorem cM.sC {I I' : pHI} {m u : Nat} {M : pMk} (h : cM I m u M) (f : sC I I') : cM I' m u M := by
  obtain ⟨h1, h2, h3⟩ := h
  refine ⟨by rw [f 47 5 (by decide) (by decide)]; exact h1, by rw [f 47 6 (by decide) (by decide)]; exact h2, fun i hi => ?_⟩
  rw [f 48 i (by simp) (by decide), f 49 i (by simp) (by decide), f 50 i (by simp) (by decide), f 51 i (by simp) (by decide), f 52 i (by simp) (by decide)]
  exact h3 i hi
theorem cH.sC {o : Nat} {H : pN} {I I' : pHI} (ho : isH o) (h : cH o H I) (f : sC I I') : cH o H I' :=
  h.off (fun c k a b => f c k (by rcases ho with rfl | rfl <;> omega) (by rcases ho with rfl | rfl <;> omega))
def mkI (I : pHI) (w o l b : Nat) : Prop := I 47 7 = nI w ∧ I 47 8 = nI o ∧ I 47 9 = nI l ∧ I 47 10 = nI b
set_option maxHeartbeats 400000 in
set_option maxRecDepth 100000 in
theorem M_X0_readMark {l : Launch} {X : pX} {t g : Nat} {I : pHI} {J : pHJ} {Q : pQ} {j w o lh b : Nat} {k : Int32} {m u : Nat} {M : pMk} {H : pN} (hM : cM I m u M) (hrM : rM H m u M) (hj : j < m) (hI : mkI I w o lh b) (hs : mkS M k j w o lh b) (hc : cnM M k j) (hq : ∀ I1 w o lh b, sC I I1 → mkI I1 w o lh b → mkS M k (j + 1) w o lh b → Q none I1 J (pR t g)) : pM l X yX0_readMark mX0_readMark 1 [.ref 47, .int (nI j)] pK pK I J (pR t g) Q := by
  have hm30 := hrM.1
  have hr3 := hrM.2.2 j hj
  obtain ⟨m1, m2, m3, -, -⟩ := hM.2.2 j hj
  obtain ⟨i1, i2, i3, i4⟩ := hI
  have ht1 := Bool.toNat_le (M j).1
  have ht2 := Bool.toNat_le (M j).2.1
  have hl9 := hs.2.2.1.1
  have hb10 := hs.2.2.2.1
  refine pM_of rfl (fun h => by cases h) rfl pKM (Nat.le_of_ble_eq_true rfl) ?_
  refine pE_aload_n dX0_readMark_0 rfl rfl ?_
  refine pE_getR dX0_readMark_1 flX0_11 rfl (by first | assumption | rfl) (by first | assumption | rfl) ?_
  refine pE_iload_n dX0_readMark_4 rfl rfl ?_
  refine pE_zaloadN dX0_readMark_5 (by first | assumption | rfl) (by first | assumption | omega) (by omega) ?_
  rw [m1]
  refine pE_if_eq (tgt := 38) dX0_readMark_6 (by decide) (fun h6 => ?_) (fun h6 => ?_)
  · have g6 := nq_eq0 (by omega) h6
    have z1 : (M j).1 = false := by simpa using toN0 g6
    refine pE_aload_n dX0_readMark_38 rfl rfl ?_
    refine pE_getR dX0_readMark_39 flX0_11 rfl (by first | assumption | rfl) (by first | assumption | rfl) ?_
    refine pE_iload_n dX0_readMark_42 rfl rfl ?_
    refine pE_zaloadN dX0_readMark_43 (by first | assumption | rfl) (by first | assumption | omega) (by omega) ?_
    rw [m1]
    refine pE_if_eq (tgt := 67) dX0_readMark_44 (by decide) (fun h44 => ?_) (fun h44 => ?_)
    · have g44 := nq_eq0 (by omega) h44
      refine pE_aload_n dX0_readMark_67 rfl rfl ?_
      refine pE_getR dX0_readMark_68 flX0_15 rfl (by first | assumption | rfl) (by first | assumption | rfl) ?_
      refine pE_iload_n dX0_readMark_71 rfl rfl ?_
      refine pE_zaloadN dX0_readMark_72 (by first | assumption | rfl) (by first | assumption | omega) (by omega) ?_
      rw [m2]
      refine pE_if_eq (tgt := 96) dX0_readMark_73 (by decide) (fun h73 => ?_) (fun h73 => ?_)
      · have g73 := nq_eq0 (by omega) h73
        refine pE_aload_n dX0_readMark_96 rfl rfl ?_
        refine pE_aload_n dX0_readMark_97 rfl rfl ?_
        refine pE_getI dX0_readMark_98 flX0_44 rfl (Or.inl rfl) (by first | assumption | rfl) ?_
        rw [i4]
        refine pE_aload_n dX0_readMark_101 rfl rfl ?_
        refine pE_getR dX0_readMark_102 flX0_18 rfl (by first | assumption | rfl) (by first | assumption | rfl) ?_
        refine pE_iload_n dX0_readMark_105 rfl rfl ?_
        refine pE_ialoadN dX0_readMark_106 (by first | assumption | rfl) (by first | assumption | omega) (by omega) ?_
        rw [m3]
        refine pE_min dX0_readMark_107 lkX0_86 (by decide) (Nat.le_of_ble_eq_true rfl) ?_
        rw [nI_min _ _ (by omega) (by omega)]
        refine pE_putI dX0_readMark_110 flX0_44 ftX0 fiX0_10 rfl rfl (by first | assumption | rfl) ?_
        refine pE_vret dX0_readMark_113 rfl rfl ?_
        first
        | (exfalso; omega)
        | (have e1 : (M j).1 = true := toN1 g6
           have e2 : (M j).2.1 = true := toN1 g15
           exact hq _ (w ||| 2 ^ (M j).2.2.1) o lh b (sC.rf.p47 (by decide)) ⟨by rw [pu_at]; simp, by rw [pu_at]; simpa using i2, by rw [pu_at]; simpa using i3, by rw [pu_at]; simpa using i4⟩ (mkS_w hs hc e1 e2 hr3.1))
        | (have e1 : (M j).1 = true := toN1 g44
           have e2 : (M j).2.1 = false := by simpa using toN0 g15
           exact hq _ w (o ||| 2 ^ (M j).2.2.1) lh b (sC.rf.p47 (by decide)) ⟨by rw [pu_at]; simpa using i1, by rw [pu_at]; simp, by rw [pu_at]; simpa using i3, by rw [pu_at]; simpa using i4⟩ (mkS_o hs hc e1 e2 hr3.1))
        | (have e1 : (M j).1 = false := by simpa using toN0 g44
           have e2 : (M j).2.1 = true := toN1 g73
           exact hq _ w o (max lh (M j).2.2.1) b (sC.rf.p47 (by decide)) ⟨by rw [pu_at]; simpa using i1, by rw [pu_at]; simpa using i2, by rw [pu_at]; simp, by rw [pu_at]; simpa using i4⟩ (mkS_l hs hc e1 e2 (hr3.2.1 e1)))
        | (have e1 : (M j).1 = false := by simpa using toN0 g44
           have e2 : (M j).2.1 = false := by simpa using toN0 g73
           exact hq _ w o lh (min b (M j).2.2.1) (sC.rf.p47 (by decide)) ⟨by rw [pu_at]; simpa using i1, by rw [pu_at]; simpa using i2, by rw [pu_at]; simpa using i3, by rw [pu_at]; simp⟩ (mkS_b hs hc e1 e2))
      · have g73 := nq_ne0 (by omega) h73
        refine pE_aload_n dX0_readMark_76 rfl rfl ?_
        refine pE_aload_n dX0_readMark_77 rfl rfl ?_
        refine pE_getI dX0_readMark_78 flX0_41 rfl (Or.inl rfl) (by first | assumption | rfl) ?_
        rw [i3]
        refine pE_aload_n dX0_readMark_81 rfl rfl ?_
        refine pE_getR dX0_readMark_82 flX0_18 rfl (by first | assumption | rfl) (by first | assumption | rfl) ?_
        refine pE_iload_n dX0_readMark_85 rfl rfl ?_
        refine pE_ialoadN dX0_readMark_86 (by first | assumption | rfl) (by first | assumption | omega) (by omega) ?_
        rw [m3]
        refine pE_max dX0_readMark_87 lkX0_80 (by decide) (Nat.le_of_ble_eq_true rfl) ?_
        rw [nI_max _ _ (by omega) (by omega)]
        refine pE_putI dX0_readMark_90 flX0_41 ftX0 fiX0_9 rfl rfl (by first | assumption | rfl) ?_
        refine pE_goto (tgt := 113) dX0_readMark_93 (by decide) ?_
        refine pE_vret dX0_readMark_113 rfl rfl ?_
        first
        | (exfalso; omega)
        | (have e1 : (M j).1 = true := toN1 g6
           have e2 : (M j).2.1 = true := toN1 g15
           exact hq _ (w ||| 2 ^ (M j).2.2.1) o lh b (sC.rf.p47 (by decide)) ⟨by rw [pu_at]; simp, by rw [pu_at]; simpa using i2, by rw [pu_at]; simpa using i3, by rw [pu_at]; simpa using i4⟩ (mkS_w hs hc e1 e2 hr3.1))
        | (have e1 : (M j).1 = true := toN1 g44
           have e2 : (M j).2.1 = false := by simpa using toN0 g15
           exact hq _ w (o ||| 2 ^ (M j).2.2.1) lh b (sC.rf.p47 (by decide)) ⟨by rw [pu_at]; simpa using i1, by rw [pu_at]; simp, by rw [pu_at]; simpa using i3, by rw [pu_at]; simpa using i4⟩ (mkS_o hs hc e1 e2 hr3.1))
        | (have e1 : (M j).1 = false := by simpa using toN0 g44
           have e2 : (M j).2.1 = true := toN1 g73
           exact hq _ w o (max lh (M j).2.2.1) b (sC.rf.p47 (by decide)) ⟨by rw [pu_at]; simpa using i1, by rw [pu_at]; simpa using i2, by rw [pu_at]; simp, by rw [pu_at]; simpa using i4⟩ (mkS_l hs hc e1 e2 (hr3.2.1 e1)))
        | (have e1 : (M j).1 = false := by simpa using toN0 g44
           have e2 : (M j).2.1 = false := by simpa using toN0 g73
           exact hq _ w o lh (min b (M j).2.2.1) (sC.rf.p47 (by decide)) ⟨by rw [pu_at]; simpa using i1, by rw [pu_at]; simpa using i2, by rw [pu_at]; simpa using i3, by rw [pu_at]; simp⟩ (mkS_b hs hc e1 e2))
    · have g44 := nq_ne0 (by omega) h44
      refine pE_aload_n dX0_readMark_47 rfl rfl ?_
      refine pE_dupR dX0_readMark_48 ?_
      refine pE_getI dX0_readMark_49 flX0_38 rfl (Or.inl rfl) (by first | assumption | rfl) ?_
      rw [i2]
      refine pE_iconst (v := nI 1) dX0_readMark_52 rfl ?_
      refine pE_aload_n dX0_readMark_53 rfl rfl ?_
      refine pE_getR dX0_readMark_54 flX0_18 rfl (by first | assumption | rfl) (by first | assumption | rfl) ?_
      refine pE_iload_n dX0_readMark_57 rfl rfl ?_
      refine pE_ialoadN dX0_readMark_58 (by first | assumption | rfl) (by first | assumption | omega) (by omega) ?_
      rw [m3]
      refine pE_ishl dX0_readMark_59 ?_
      rw [shl20 hr3.1]
      refine pE_ior dX0_readMark_60 ?_
      rw [nI_or2]
      refine pE_putI dX0_readMark_61 flX0_38 ftX0 fiX0_8 rfl rfl (by first | assumption | rfl) ?_
      refine pE_goto (tgt := 113) dX0_readMark_64 (by decide) ?_
      refine pE_vret dX0_readMark_113 rfl rfl ?_
      first
      | (exfalso; omega)
      | (have e1 : (M j).1 = true := toN1 g6
         have e2 : (M j).2.1 = true := toN1 g15
         exact hq _ (w ||| 2 ^ (M j).2.2.1) o lh b (sC.rf.p47 (by decide)) ⟨by rw [pu_at]; simp, by rw [pu_at]; simpa using i2, by rw [pu_at]; simpa using i3, by rw [pu_at]; simpa using i4⟩ (mkS_w hs hc e1 e2 hr3.1))
      | (have e1 : (M j).1 = true := toN1 g44
         have e2 : (M j).2.1 = false := by simpa using toN0 g15
         exact hq _ w (o ||| 2 ^ (M j).2.2.1) lh b (sC.rf.p47 (by decide)) ⟨by rw [pu_at]; simpa using i1, by rw [pu_at]; simp, by rw [pu_at]; simpa using i3, by rw [pu_at]; simpa using i4⟩ (mkS_o hs hc e1 e2 hr3.1))
      | (have e1 : (M j).1 = false := by simpa using toN0 g44
         have e2 : (M j).2.1 = true := toN1 g73
         exact hq _ w o (max lh (M j).2.2.1) b (sC.rf.p47 (by decide)) ⟨by rw [pu_at]; simpa using i1, by rw [pu_at]; simpa using i2, by rw [pu_at]; simp, by rw [pu_at]; simpa using i4⟩ (mkS_l hs hc e1 e2 (hr3.2.1 e1)))
      | (have e1 : (M j).1 = false := by simpa using toN0 g44
         have e2 : (M j).2.1 = false := by simpa using toN0 g73
         exact hq _ w o lh (min b (M j).2.2.1) (sC.rf.p47 (by decide)) ⟨by rw [pu_at]; simpa using i1, by rw [pu_at]; simpa using i2, by rw [pu_at]; simpa using i3, by rw [pu_at]; simp⟩ (mkS_b hs hc e1 e2))
  · have g6 := nq_ne0 (by omega) h6
    refine pE_aload_n dX0_readMark_9 rfl rfl ?_
    refine pE_getR dX0_readMark_10 flX0_15 rfl (by first | assumption | rfl) (by first | assumption | rfl) ?_
    refine pE_iload_n dX0_readMark_13 rfl rfl ?_
    refine pE_zaloadN dX0_readMark_14 (by first | assumption | rfl) (by first | assumption | omega) (by omega) ?_
    rw [m2]
    refine pE_if_eq (tgt := 38) dX0_readMark_15 (by decide) (fun h15 => ?_) (fun h15 => ?_)
    · have g15 := nq_eq0 (by omega) h15
      refine pE_aload_n dX0_readMark_38 rfl rfl ?_
      refine pE_getR dX0_readMark_39 flX0_11 rfl (by first | assumption | rfl) (by first | assumption | rfl) ?_
      refine pE_iload_n dX0_readMark_42 rfl rfl ?_
      refine pE_zaloadN dX0_readMark_43 (by first | assumption | rfl) (by first | assumption | omega) (by omega) ?_
      rw [m1]
      refine pE_if_eq (tgt := 67) dX0_readMark_44 (by decide) (fun h44 => ?_) (fun h44 => ?_)
      · have g44 := nq_eq0 (by omega) h44
        refine pE_aload_n dX0_readMark_67 rfl rfl ?_
        refine pE_getR dX0_readMark_68 flX0_15 rfl (by first | assumption | rfl) (by first | assumption | rfl) ?_
        refine pE_iload_n dX0_readMark_71 rfl rfl ?_
        refine pE_zaloadN dX0_readMark_72 (by first | assumption | rfl) (by first | assumption | omega) (by omega) ?_
        rw [m2]
        refine pE_if_eq (tgt := 96) dX0_readMark_73 (by decide) (fun h73 => ?_) (fun h73 => ?_)
        · have g73 := nq_eq0 (by omega) h73
          refine pE_aload_n dX0_readMark_96 rfl rfl ?_
          refine pE_aload_n dX0_readMark_97 rfl rfl ?_
          refine pE_getI dX0_readMark_98 flX0_44 rfl (Or.inl rfl) (by first | assumption | rfl) ?_
          rw [i4]
          refine pE_aload_n dX0_readMark_101 rfl rfl ?_
          refine pE_getR dX0_readMark_102 flX0_18 rfl (by first | assumption | rfl) (by first | assumption | rfl) ?_
          refine pE_iload_n dX0_readMark_105 rfl rfl ?_
          refine pE_ialoadN dX0_readMark_106 (by first | assumption | rfl) (by first | assumption | omega) (by omega) ?_
          rw [m3]
          refine pE_min dX0_readMark_107 lkX0_86 (by decide) (Nat.le_of_ble_eq_true rfl) ?_
          rw [nI_min _ _ (by omega) (by omega)]
          refine pE_putI dX0_readMark_110 flX0_44 ftX0 fiX0_10 rfl rfl (by first | assumption | rfl) ?_
          refine pE_vret dX0_readMark_113 rfl rfl ?_
          first
          | (exfalso; omega)
          | (have e1 : (M j).1 = true := toN1 g6
             have e2 : (M j).2.1 = true := toN1 g15
             exact hq _ (w ||| 2 ^ (M j).2.2.1) o lh b (sC.rf.p47 (by decide)) ⟨by rw [pu_at]; simp, by rw [pu_at]; simpa using i2, by rw [pu_at]; simpa using i3, by rw [pu_at]; simpa using i4⟩ (mkS_w hs hc e1 e2 hr3.1))
          | (have e1 : (M j).1 = true := toN1 g44
             have e2 : (M j).2.1 = false := by simpa using toN0 g15
             exact hq _ w (o ||| 2 ^ (M j).2.2.1) lh b (sC.rf.p47 (by decide)) ⟨by rw [pu_at]; simpa using i1, by rw [pu_at]; simp, by rw [pu_at]; simpa using i3, by rw [pu_at]; simpa using i4⟩ (mkS_o hs hc e1 e2 hr3.1))
          | (have e1 : (M j).1 = false := by simpa using toN0 g44
             have e2 : (M j).2.1 = true := toN1 g73
             exact hq _ w o (max lh (M j).2.2.1) b (sC.rf.p47 (by decide)) ⟨by rw [pu_at]; simpa using i1, by rw [pu_at]; simpa using i2, by rw [pu_at]; simp, by rw [pu_at]; simpa using i4⟩ (mkS_l hs hc e1 e2 (hr3.2.1 e1)))
          | (have e1 : (M j).1 = false := by simpa using toN0 g44
             have e2 : (M j).2.1 = false := by simpa using toN0 g73
             exact hq _ w o lh (min b (M j).2.2.1) (sC.rf.p47 (by decide)) ⟨by rw [pu_at]; simpa using i1, by rw [pu_at]; simpa using i2, by rw [pu_at]; simpa using i3, by rw [pu_at]; simp⟩ (mkS_b hs hc e1 e2))
        · have g73 := nq_ne0 (by omega) h73
          refine pE_aload_n dX0_readMark_76 rfl rfl ?_
          refine pE_aload_n dX0_readMark_77 rfl rfl ?_
          refine pE_getI dX0_readMark_78 flX0_41 rfl (Or.inl rfl) (by first | assumption | rfl) ?_
          rw [i3]
          refine pE_aload_n dX0_readMark_81 rfl rfl ?_
          refine pE_getR dX0_readMark_82 flX0_18 rfl (by first | assumption | rfl) (by first | assumption | rfl) ?_
          refine pE_iload_n dX0_readMark_85 rfl rfl ?_
          refine pE_ialoadN dX0_readMark_86 (by first | assumption | rfl) (by first | assumption | omega) (by omega) ?_
          rw [m3]
          refine pE_max dX0_readMark_87 lkX0_80 (by decide) (Nat.le_of_ble_eq_true rfl) ?_
          rw [nI_max _ _ (by omega) (by omega)]
          refine pE_putI dX0_readMark_90 flX0_41 ftX0 fiX0_9 rfl rfl (by first | assumption | rfl) ?_
          refine pE_goto (tgt := 113) dX0_readMark_93 (by decide) ?_
          refine pE_vret dX0_readMark_113 rfl rfl ?_
          first
          | (exfalso; omega)
          | (have e1 : (M j).1 = true := toN1 g6
             have e2 : (M j).2.1 = true := toN1 g15
             exact hq _ (w ||| 2 ^ (M j).2.2.1) o lh b (sC.rf.p47 (by decide)) ⟨by rw [pu_at]; simp, by rw [pu_at]; simpa using i2, by rw [pu_at]; simpa using i3, by rw [pu_at]; simpa using i4⟩ (mkS_w hs hc e1 e2 hr3.1))
          | (have e1 : (M j).1 = true := toN1 g44
             have e2 : (M j).2.1 = false := by simpa using toN0 g15
             exact hq _ w (o ||| 2 ^ (M j).2.2.1) lh b (sC.rf.p47 (by decide)) ⟨by rw [pu_at]; simpa using i1, by rw [pu_at]; simp, by rw [pu_at]; simpa using i3, by rw [pu_at]; simpa using i4⟩ (mkS_o hs hc e1 e2 hr3.1))
          | (have e1 : (M j).1 = false := by simpa using toN0 g44
             have e2 : (M j).2.1 = true := toN1 g73
             exact hq _ w o (max lh (M j).2.2.1) b (sC.rf.p47 (by decide)) ⟨by rw [pu_at]; simpa using i1, by rw [pu_at]; simpa using i2, by rw [pu_at]; simp, by rw [pu_at]; simpa using i4⟩ (mkS_l hs hc e1 e2 (hr3.2.1 e1)))
          | (have e1 : (M j).1 = false := by simpa using toN0 g44
             have e2 : (M j).2.1 = false := by simpa using toN0 g73
             exact hq _ w o lh (min b (M j).2.2.1) (sC.rf.p47 (by decide)) ⟨by rw [pu_at]; simpa using i1, by rw [pu_at]; simpa using i2, by rw [pu_at]; simpa using i3, by rw [pu_at]; simp⟩ (mkS_b hs hc e1 e2))
      · have g44 := nq_ne0 (by omega) h44
        refine pE_aload_n dX0_readMark_47 rfl rfl ?_
        refine pE_dupR dX0_readMark_48 ?_
        refine pE_getI dX0_readMark_49 flX0_38 rfl (Or.inl rfl) (by first | assumption | rfl) ?_
        rw [i2]
        refine pE_iconst (v := nI 1) dX0_readMark_52 rfl ?_
        refine pE_aload_n dX0_readMark_53 rfl rfl ?_
        refine pE_getR dX0_readMark_54 flX0_18 rfl (by first | assumption | rfl) (by first | assumption | rfl) ?_
        refine pE_iload_n dX0_readMark_57 rfl rfl ?_
        refine pE_ialoadN dX0_readMark_58 (by first | assumption | rfl) (by first | assumption | omega) (by omega) ?_
        rw [m3]
        refine pE_ishl dX0_readMark_59 ?_
        rw [shl20 hr3.1]
        refine pE_ior dX0_readMark_60 ?_
        rw [nI_or2]
        refine pE_putI dX0_readMark_61 flX0_38 ftX0 fiX0_8 rfl rfl (by first | assumption | rfl) ?_
        refine pE_goto (tgt := 113) dX0_readMark_64 (by decide) ?_
        refine pE_vret dX0_readMark_113 rfl rfl ?_
        first
        | (exfalso; omega)
        | (have e1 : (M j).1 = true := toN1 g6
           have e2 : (M j).2.1 = true := toN1 g15
           exact hq _ (w ||| 2 ^ (M j).2.2.1) o lh b (sC.rf.p47 (by decide)) ⟨by rw [pu_at]; simp, by rw [pu_at]; simpa using i2, by rw [pu_at]; simpa using i3, by rw [pu_at]; simpa using i4⟩ (mkS_w hs hc e1 e2 hr3.1))
        | (have e1 : (M j).1 = true := toN1 g44
           have e2 : (M j).2.1 = false := by simpa using toN0 g15
           exact hq _ w (o ||| 2 ^ (M j).2.2.1) lh b (sC.rf.p47 (by decide)) ⟨by rw [pu_at]; simpa using i1, by rw [pu_at]; simp, by rw [pu_at]; simpa using i3, by rw [pu_at]; simpa using i4⟩ (mkS_o hs hc e1 e2 hr3.1))
        | (have e1 : (M j).1 = false := by simpa using toN0 g44
           have e2 : (M j).2.1 = true := toN1 g73
           exact hq _ w o (max lh (M j).2.2.1) b (sC.rf.p47 (by decide)) ⟨by rw [pu_at]; simpa using i1, by rw [pu_at]; simpa using i2, by rw [pu_at]; simp, by rw [pu_at]; simpa using i4⟩ (mkS_l hs hc e1 e2 (hr3.2.1 e1)))
        | (have e1 : (M j).1 = false := by simpa using toN0 g44
           have e2 : (M j).2.1 = false := by simpa using toN0 g73
           exact hq _ w o lh (min b (M j).2.2.1) (sC.rf.p47 (by decide)) ⟨by rw [pu_at]; simpa using i1, by rw [pu_at]; simpa using i2, by rw [pu_at]; simpa using i3, by rw [pu_at]; simp⟩ (mkS_b hs hc e1 e2))
    · have g15 := nq_ne0 (by omega) h15
      refine pE_aload_n dX0_readMark_18 rfl rfl ?_
      refine pE_dupR dX0_readMark_19 ?_
      refine pE_getI dX0_readMark_20 flX0_35 rfl (Or.inl rfl) (by first | assumption | rfl) ?_
      rw [i1]
      refine pE_iconst (v := nI 1) dX0_readMark_23 rfl ?_
      refine pE_aload_n dX0_readMark_24 rfl rfl ?_
      refine pE_getR dX0_readMark_25 flX0_18 rfl (by first | assumption | rfl) (by first | assumption | rfl) ?_
      refine pE_iload_n dX0_readMark_28 rfl rfl ?_
      refine pE_ialoadN dX0_readMark_29 (by first | assumption | rfl) (by first | assumption | omega) (by omega) ?_
      rw [m3]
      refine pE_ishl dX0_readMark_30 ?_
      rw [shl20 hr3.1]
      refine pE_ior dX0_readMark_31 ?_
      rw [nI_or2]
      refine pE_putI dX0_readMark_32 flX0_35 ftX0 fiX0_7 rfl rfl (by first | assumption | rfl) ?_
      refine pE_goto (tgt := 113) dX0_readMark_35 (by decide) ?_
      refine pE_vret dX0_readMark_113 rfl rfl ?_
      first
      | (exfalso; omega)
      | (have e1 : (M j).1 = true := toN1 g6
         have e2 : (M j).2.1 = true := toN1 g15
         exact hq _ (w ||| 2 ^ (M j).2.2.1) o lh b (sC.rf.p47 (by decide)) ⟨by rw [pu_at]; simp, by rw [pu_at]; simpa using i2, by rw [pu_at]; simpa using i3, by rw [pu_at]; simpa using i4⟩ (mkS_w hs hc e1 e2 hr3.1))
      | (have e1 : (M j).1 = true := toN1 g44
         have e2 : (M j).2.1 = false := by simpa using toN0 g15
         exact hq _ w (o ||| 2 ^ (M j).2.2.1) lh b (sC.rf.p47 (by decide)) ⟨by rw [pu_at]; simpa using i1, by rw [pu_at]; simp, by rw [pu_at]; simpa using i3, by rw [pu_at]; simpa using i4⟩ (mkS_o hs hc e1 e2 hr3.1))
      | (have e1 : (M j).1 = false := by simpa using toN0 g44
         have e2 : (M j).2.1 = true := toN1 g73
         exact hq _ w o (max lh (M j).2.2.1) b (sC.rf.p47 (by decide)) ⟨by rw [pu_at]; simpa using i1, by rw [pu_at]; simpa using i2, by rw [pu_at]; simp, by rw [pu_at]; simpa using i4⟩ (mkS_l hs hc e1 e2 (hr3.2.1 e1)))
      | (have e1 : (M j).1 = false := by simpa using toN0 g44
         have e2 : (M j).2.1 = false := by simpa using toN0 g73
         exact hq _ w o lh (min b (M j).2.2.1) (sC.rf.p47 (by decide)) ⟨by rw [pu_at]; simpa using i1, by rw [pu_at]; simpa using i2, by rw [pu_at]; simpa using i3, by rw [pu_at]; simp⟩ (mkS_b hs hc e1 e2))
set_option maxHeartbeats 400000 in
set_option maxRecDepth 100000 in
theorem L_X0_readMarks {l : Launch} {X : pX} {t g : Nat} {I : pHI} {J : pHJ} {Q : pQ} {k : Int32} {m u : Nat} {M : pMk} {H : pN} (hM : cM I m u M) (hrM : rM H m u M) (hq : ∀ I1 w o lh b, sC I I1 → mkI I1 w o lh b → mkS M k m w o lh b → Q none I1 J (pR t g)) : ∀ (fu : Nat) (j : Nat) (w : Nat) (o : Nat) (lh : Nat) (b : Nat) (I1 : pHI), m - j < fu → (j ≤ m) → (sC I I1) → (mkI I1 w o lh b) → (mkS M k j w o lh b) → pE l X mX0_readMarks 2 pK 23 [some (.ref 47), some (.int k), some (.int (nI j))] [] pK I1 J (pR t g) Q := by
  intro fu
  induction fu with
  | zero => intro j w o lh b I1 hn; exact absurd hn (Nat.not_lt_zero _)
  | succ fu ih =>
    intro j w o lh b I1 hn hj hf hI hs
    have hm30 := hrM.1
    have hM1 := hM.sC hf
    refine pE_iload_n dX0_readMarks_23 rfl rfl ?_
    refine pE_aload_n dX0_readMarks_24 rfl rfl ?_
    refine pE_getI dX0_readMarks_25 flX0_28 rfl (Or.inl rfl) (by first | assumption | rfl) ?_
    rw [hM1.1]
    refine pE_icmp_ge (tgt := 57) dX0_readMarks_28 (by decide) (fun h28 => ?_) (fun h28 => ?_)
    · have g28 := nq_le (by omega) (by omega) h28
      refine pE_vret dX0_readMarks_57 rfl rfl ?_
      obtain rfl : j = m := by omega
      exact hq _ _ _ _ _ hf hI hs
    · have g28 := nq_nle (by omega) (by omega) h28
      refine pE_iload_n dX0_readMarks_31 rfl rfl ?_
      refine pE_bipush (v := nI 30) dX0_readMarks_32 rfl ?_
      refine pE_icmp_ge (tgt := 57) dX0_readMarks_34 (by decide) (fun h34 => ?_) (fun h34 => ?_)
      · have g34 := nq_le (by omega) (by omega) h34
        refine pE_vret dX0_readMarks_57 rfl rfl ?_
        obtain rfl : j = m := by omega
        exact hq _ _ _ _ _ hf hI hs
      · have g34 := nq_nle (by omega) (by omega) h34
        refine pE_aload_n dX0_readMarks_37 rfl rfl ?_
        refine pE_iload_n dX0_readMarks_38 rfl rfl ?_
        refine pE_iload_n dX0_readMarks_39 rfl rfl ?_
        refine pE_callV (d' := 0) (as := [_, _]) dX0_readMarks_40 lkX0_73 (cwX0_counts _ _) ivX0_counts ⟨_, rfl, rfl⟩ (by first | assumption | rfl) rfl rfl (Nat.le_of_ble_eq_true rfl) (by decide) pKK ?_
        refine M_X0_counts hM1 hrM (by omega) (fun hc => ?_) (fun hc => ?_)
        · refine pE_if_eq_f (tgt := 51) dX0_readMarks_43 (by decide) nI_1n0 ?_
          refine pE_aload_n dX0_readMarks_46 rfl rfl ?_
          refine pE_iload_n dX0_readMarks_47 rfl rfl ?_
          refine pE_callV (d' := 1) (as := [_]) dX0_readMarks_48 lkX0_77 (cwX0_readMark _ _) ivX0_readMark ⟨_, rfl, rfl⟩ (by first | assumption | rfl) rfl rfl (Nat.le_of_ble_eq_true rfl) (by decide) pKK ?_
          refine M_X0_readMark hM1 hrM (by omega) hI hs hc (fun I2 w2 o2 l2 b2 f2 hI2 hs2 => ?_)
          refine pE_iincN (c0 := 1) (lc' := [_, _, some (.int _)]) dX0_readMarks_51 rfl rfl rfl rfl ?_
          refine pE_goto (tgt := 23) dX0_readMarks_54 (by decide) ?_
          first
          | exact ih (j + 1) _ _ _ _ _ (by omega) (by omega) hf hI (mkS_skip hs hc)
          | exact ih (j + 1) _ _ _ _ _ (by omega) (by omega) (hf.tr f2) hI2 hs2
        · refine pE_if_eq_t (tgt := 51) dX0_readMarks_43 (by decide) nI_0 ?_
          refine pE_iincN (c0 := 1) (lc' := [_, _, some (.int _)]) dX0_readMarks_51 rfl rfl rfl rfl ?_
          refine pE_goto (tgt := 23) dX0_readMarks_54 (by decide) ?_
          first
          | exact ih (j + 1) _ _ _ _ _ (by omega) (by omega) hf hI (mkS_skip hs hc)
          | exact ih (j + 1) _ _ _ _ _ (by omega) (by omega) (hf.tr f2) hI2 hs2
set_option maxHeartbeats 400000 in
set_option maxRecDepth 100000 in
theorem M_X0_readMarks {l : Launch} {X : pX} {t g : Nat} {I : pHI} {J : pHJ} {Q : pQ} {k : Int32} {m u : Nat} {M : pMk} {H : pN} (hM : cM I m u M) (hrM : rM H m u M) (hq : ∀ I1 w o lh b, sC I I1 → mkI I1 w o lh b → mkS M k m w o lh b → Q none I1 J (pR t g)) : pM l X yX0_readMarks mX0_readMarks 2 [.ref 47, .int k] pK pK I J (pR t g) Q := by
  refine pM_of rfl (fun h => by cases h) rfl pKM (Nat.le_of_ble_eq_true rfl) ?_
  refine pE_aload_n dX0_readMarks_0 rfl rfl ?_
  refine pE_iconst (v := nI 0) dX0_readMarks_1 rfl ?_
  refine pE_putI dX0_readMarks_2 flX0_35 ftX0 fiX0_7 rfl rfl (by first | assumption | rfl) ?_
  refine pE_aload_n dX0_readMarks_5 rfl rfl ?_
  refine pE_iconst (v := nI 0) dX0_readMarks_6 rfl ?_
  refine pE_putI dX0_readMarks_7 flX0_38 ftX0 fiX0_8 rfl rfl (by first | assumption | rfl) ?_
  refine pE_aload_n dX0_readMarks_10 rfl rfl ?_
  refine pE_iconst (v := nI 0) dX0_readMarks_11 rfl ?_
  refine pE_putI dX0_readMarks_12 flX0_41 ftX0 fiX0_9 rfl rfl (by first | assumption | rfl) ?_
  refine pE_aload_n dX0_readMarks_15 rfl rfl ?_
  refine pE_bipush (v := nI 10) dX0_readMarks_16 rfl ?_
  refine pE_putI dX0_readMarks_18 flX0_44 ftX0 fiX0_10 rfl rfl (by first | assumption | rfl) ?_
  refine pE_iconst (v := nI 0) dX0_readMarks_21 rfl ?_
  refine pE_istore_n (lc' := [_, _, some (.int _)]) dX0_readMarks_22 rfl (Nat.le_of_ble_eq_true rfl) rfl rfl ?_
  exact L_X0_readMarks hM hrM hq (m + 1) 0 0 0 0 10 _ (by omega) (by omega) ((((sC.rf.p47 (by decide)).p47 (by decide)).p47 (by decide)).p47 (by decide)) ⟨by simp [pu_at], by simp [pu_at], by simp [pu_at], by simp [pu_at]⟩ (mkS_0 M k)
set_option maxHeartbeats 400000 in
set_option maxRecDepth 100000 in
theorem L_X0_noteRun {l : Launch} {X : pX} {t g : Nat} {I : pHI} {J : pHJ} {Q : pQ} {lo hi : Nat} {Y : Nat → Nat} (hh : hi ≤ 20) (hl : lo ≤ hi) (hq : ∀ I2, (∀ c k, c ≠ 53 → I2 c k = I c k) → (∀ s, s ≤ 20 → I2 53 s = nI (Y s + if lo ≤ s ∧ s ≤ hi then 1 else 0)) → Q none I2 J (pR t g)) : ∀ (fu : Nat) (j : Nat) (I1 : pHI), hi + 1 - j < fu → (j ≤ hi + 1) → (lo ≤ j) → (∀ c k, c ≠ 53 → I1 c k = I c k) → (∀ s, s ≤ 20 → I1 53 s = nI (Y s + if lo ≤ s ∧ s < j then 1 else 0)) → pE l X mX0_noteRun 0 pK 2 [some (.ref 47), some (.int (nI lo)), some (.int (nI hi)), some (.int (nI j))] [] pK I1 J (pR t g) Q := by
  intro fu
  induction fu with
  | zero => intro j I1 hn; exact absurd hn (Nat.not_lt_zero _)
  | succ fu ih =>
    intro j I1 hn hj hlj hf hv
    refine pE_iload_n dX0_noteRun_2 rfl rfl ?_
    refine pE_iload_n dX0_noteRun_3 rfl rfl ?_
    refine pE_icmp_gt (tgt := 29) dX0_noteRun_4 (by decide) (fun h4 => ?_) (fun h4 => ?_)
    · have g4 := nq_lt (by omega) (by omega) h4
      refine pE_vret dX0_noteRun_29 rfl rfl ?_
      obtain rfl : j = hi + 1 := by omega
      exact hq _ hf (fun s hs => by rw [hv s hs]; congr 2; simp only [Nat.lt_succ_iff])
    · have g4 := nq_nlt (by omega) (by omega) h4
      refine pE_iload_n dX0_noteRun_7 rfl rfl ?_
      refine pE_bipush (v := nI 20) dX0_noteRun_8 rfl ?_
      refine pE_icmp_gt (tgt := 29) dX0_noteRun_10 (by decide) (fun h10 => ?_) (fun h10 => ?_)
      · have g10 := nq_lt (by omega) (by omega) h10
        omega
      · have g10 := nq_nlt (by omega) (by omega) h10
        refine pE_aload_n dX0_noteRun_13 rfl rfl ?_
        refine pE_getR dX0_noteRun_14 flX0_53 rfl (by first | assumption | rfl) (by first | assumption | rfl) ?_
        refine pE_iload_n dX0_noteRun_17 rfl rfl ?_
        refine pE_dup2 dX0_noteRun_18 ?_
        refine pE_ialoadN dX0_noteRun_19 (by first | assumption | rfl) (by first | assumption | omega) (by omega) ?_
        rw [hv j (by omega)]
        refine pE_iconst (v := nI 1) dX0_noteRun_20 rfl ?_
        refine pE_iaddN dX0_noteRun_21 ?_
        refine pE_iastoreN dX0_noteRun_22 (by first | assumption | rfl) (by first | assumption | omega) (by omega) ?_
        refine pE_iincN (c0 := 1) (lc' := [_, _, _, some (.int _)]) dX0_noteRun_23 rfl rfl rfl rfl ?_
        refine pE_goto (tgt := 2) dX0_noteRun_26 (by decide) ?_
        refine ih (j + 1) _ (by omega) (by omega) (by omega) (fun c k hc => by rw [pu_ne _ _ _ hc]; exact hf c k hc) (fun s hs => ?_)
        rw [pu_at]
        by_cases e : s = j
        · subst e
          rw [if_pos ⟨rfl, rfl⟩, if_neg (by omega), if_pos (by omega)]
        · rw [if_neg (fun q => e q.2), hv s hs]
          by_cases c : lo ≤ s ∧ s < j
          · rw [if_pos c, if_pos (by omega)]
          · rw [if_neg c, if_neg (by omega)]
set_option maxHeartbeats 400000 in
set_option maxRecDepth 100000 in
theorem M_X0_noteRun {l : Launch} {X : pX} {t g : Nat} {I : pHI} {J : pHJ} {Q : pQ} {lo hi : Nat} {Y : Nat → Nat} (hh : hi ≤ 20) (hl : lo ≤ hi) (hY : ∀ s, s ≤ 20 → I 53 s = nI (Y s)) (hq : ∀ I2, (∀ c k, c ≠ 53 → I2 c k = I c k) → (∀ s, s ≤ 20 → I2 53 s = nI (Y s + if lo ≤ s ∧ s ≤ hi then 1 else 0)) → Q none I2 J (pR t g)) : pM l X yX0_noteRun mX0_noteRun 0 [.ref 47, .int (nI lo), .int (nI hi)] pK pK I J (pR t g) Q := by
  refine pM_of rfl (fun h => by cases h) rfl pKM (Nat.le_of_ble_eq_true rfl) ?_
  refine pE_iload_n dX0_noteRun_0 rfl rfl ?_
  refine pE_istore_n (lc' := [_, _, _, some (.int _)]) dX0_noteRun_1 rfl (Nat.le_of_ble_eq_true rfl) rfl rfl ?_
  exact L_X0_noteRun hh hl hq (hi + 1 - lo + 1) lo I (by omega) (by omega) (Nat.le_refl _) (fun _ _ _ => rfl) (fun s hs => by rw [if_neg (by omega)]; exact hY s hs)
set_option maxHeartbeats 400000 in
set_option maxRecDepth 100000 in
theorem LI_X0_lookAtRuns {l : Launch} {X : pX} {t g : Nat} {I : pHI} {J : pHJ} {Q : pQ} {lo R c0 : Nat} {S : Int32} {Y y0 : Nat → Nat} {o a w w2 lh b : Nat} {k : Int32} {m : Nat} {M : pMk} {H : pN} (ho : isH o) (hH : cH o H I) (hr : rH H) (hs : mkS M k m w w2 lh b) (ha : a < H 1) (hlb : lh ≤ H (24 + a) ∧ H (24 + a) < b) (hlo : lo < H 0) (hq : ∀ I2 y4 y5, (sC I I2) → (mkI I2 w w2 lh b) → (I2 47 11 = nI (R + (c0 + c1N (rnF M k m H a) lo (H 0 - lo)))) → (I2 47 12 = (if (c0 + c1N (rnF M k m H a) lo (H 0 - lo)) = 0 then S else S ||| (nI 1 <<< (nI a &&& 31)))) → (∀ s, s ≤ 20 → I2 53 s = nI (Y s + (y0 s + c1N (wiB (rnF M k m H a) s) lo (H 0 - lo)))) → pE l X mX0_lookAtRuns 1 pK 110 [some (.ref 47), some (.ref o), some (.int (nI a)), some (.int (nI lo)), some (.int y4), some (.int y5)] [] pK I2 J (pR t g) Q) : ∀ (fu : Nat) (j : Nat) (I1 : pHI), H 0 - lo - j < fu → (j ≤ H 0 - lo) → (sC I I1) → (mkI I1 w w2 lh b) → (I1 47 11 = nI (R + (c0 + c1N (rnF M k m H a) lo j))) → (I1 47 12 = (if (c0 + c1N (rnF M k m H a) lo j) = 0 then S else S ||| (nI 1 <<< (nI a &&& 31)))) → (∀ s, s ≤ 20 → I1 53 s = nI (Y s + (y0 s + c1N (wiB (rnF M k m H a) s) lo j))) → pE l X mX0_lookAtRuns 1 pK 20 [some (.ref 47), some (.ref o), some (.int (nI a)), some (.int (nI lo)), some (.int (nI (rmB lo j))), some (.int (nI (lo + 1 + j)))] [] pK I1 J (pR t g) Q := by
  obtain ⟨fHFho0, fHFho1, fHFho2, fHFho3, fHFho4, fHFho5, fHFho6, fHFho7, fHFho8, fHFho9, fHFho10, fHFho11, fHFho12, fHFho13, fHFho14, fHFho15, fHFho16, fHFho17, fHFho18, fHFho19, fHFho20, fHFho21, fHFho22, fHFho23, fHFho24, fHFho25, fHFho26⟩ := HF t g ho
  intro fu
  induction fu with
  | zero => intro j I1 hn; exact absurd hn (Nat.not_lt_zero _)
  | succ fu ih =>
    intro j I1 hn hj hf hI hR hS hY
    have hn8 := hr.2.1
    have hn20 := hr.1.2
    have hH1 := hH.sC ho hf
    have hst := (hr.2.2.2.2 a (by omega)).2.1
    have hv9 := (hr.2.2.2.2 a (by omega)).2.2.1
    have hmr := fun i => mk_run (lo := lo) (i := i) (st := H (16 + a)) hs hv9
    have hrl : lo + (j + 1) ≤ 20 → rmB lo (j + 1) < 2 ^ 21 := rmB_lt (j + 1)
    have hw1 := hs.1.1
    have hw2 := hs.2.1.1
    have h21 : (2 : Nat) ^ 21 = 2097152 := by decide
    refine pE_iload dX0_lookAtRuns_20 rfl ?_
    refine pE_aload_n dX0_lookAtRuns_22 rfl rfl ?_
    refine pE_getI dX0_lookAtRuns_23 flX0_89 rfl (Or.inl rfl) (by first | assumption | rfl) ?_
    rw [hH1.1]
    refine pE_icmp_gt (tgt := 110) dX0_lookAtRuns_26 (by decide) (fun h26 => ?_) (fun h26 => ?_)
    · have g26 := nq_lt (by omega) (by omega) h26
      have hz : c1N (rnF M k m H a) lo (H 0 - lo) = c1N (rnF M k m H a) lo j := c1_tail _ hj (fun q h1 h2 => dcd_f (fun c => by have := c.1; omega))
      have hz2 : ∀ s, c1N (wiB (rnF M k m H a) s) lo (H 0 - lo) = c1N (wiB (rnF M k m H a) s) lo j := fun s => c1_tail _ hj (fun q h1 h2 => by unfold wiB; rw [show (rnF M k m H a) lo (lo + 1 + q) = false from dcd_f (fun c => by have := c.1; omega)]; rfl)
      refine hq _ _ _ hf hI (by rw [hz]; exact hR) (by rw [hz]; exact hS) (fun s hs => by rw [hz2]; exact hY s hs)
    · have g26 := nq_nlt (by omega) (by omega) h26
      refine pE_iload dX0_lookAtRuns_29 rfl ?_
      refine pE_iload_n dX0_lookAtRuns_31 rfl rfl ?_
      refine pE_isubN dX0_lookAtRuns_32 (by omega) ?_
      refine pE_aload_n dX0_lookAtRuns_33 rfl rfl ?_
      refine pE_getR dX0_lookAtRuns_34 flX0_92 rfl (by first | assumption | rfl) (by first | assumption | rfl) ?_
      refine pE_iload_n dX0_lookAtRuns_37 rfl rfl ?_
      refine pE_ialoadN dX0_lookAtRuns_38 (by first | assumption | rfl) (by first | assumption | omega) (by omega) ?_
      rw [(hH1.2.2.2.2.2 a (by omega)).2.1]
      refine pE_icmp_gt (tgt := 110) dX0_lookAtRuns_39 (by decide) (fun h39 => ?_) (fun h39 => ?_)
      · have g39 := nq_lt (by omega) (by omega) h39
        have hz : c1N (rnF M k m H a) lo (H 0 - lo) = c1N (rnF M k m H a) lo j := c1_tail _ hj (fun q h1 h2 => dcd_f (fun c => by have := c.1; omega))
        have hz2 : ∀ s, c1N (wiB (rnF M k m H a) s) lo (H 0 - lo) = c1N (wiB (rnF M k m H a) s) lo j := fun s => c1_tail _ hj (fun q h1 h2 => by unfold wiB; rw [show (rnF M k m H a) lo (lo + 1 + q) = false from dcd_f (fun c => by have := c.1; omega)]; rfl)
        refine hq _ _ _ hf hI (by rw [hz]; exact hR) (by rw [hz]; exact hS) (fun s hs => by rw [hz2]; exact hY s hs)
      · have g39 := nq_nlt (by omega) (by omega) h39
        refine pE_iload dX0_lookAtRuns_42 rfl ?_
        refine pE_iconst (v := nI 1) dX0_lookAtRuns_44 rfl ?_
        refine pE_iload dX0_lookAtRuns_45 rfl ?_
        refine pE_ishl dX0_lookAtRuns_47 ?_
        rw [shl20 (by omega)]
        refine pE_ior dX0_lookAtRuns_48 ?_
        rw [nI_or2, show rmB lo j ||| 2 ^ (lo + 1 + j) = rmB lo (j + 1) from rfl]
        refine pE_istore (lc' := [_, _, _, _, some (.int _), _]) dX0_lookAtRuns_49 (Nat.le_of_ble_eq_true rfl) rfl rfl ?_
        refine pE_iload dX0_lookAtRuns_51 rfl ?_
        refine pE_aload_n dX0_lookAtRuns_53 rfl rfl ?_
        refine pE_getI dX0_lookAtRuns_54 flX0_35 rfl (Or.inl rfl) (by first | assumption | rfl) ?_
        rw [hI.1]
        refine pE_iand dX0_lookAtRuns_57 ?_
        rw [nI_and2]
        refine pE_aload_n dX0_lookAtRuns_58 rfl rfl ?_
        refine pE_getI dX0_lookAtRuns_59 flX0_35 rfl (Or.inl rfl) (by first | assumption | rfl) ?_
        rw [hI.1]
        refine pE_icmp_ne (tgt := 104) dX0_lookAtRuns_62 (by decide) (fun h62 => ?_) (fun h62 => ?_)
        · have a1 := hrl (by omega)
          have a2 : rmB lo (j + 1) &&& w < 2 ^ 21 := Nat.and_lt_two_pow _ hw1
          refine pE_iincN (c0 := 1) (lc' := [_, _, _, _, _, some (.int _)]) dX0_lookAtRuns_104 rfl rfl rfl rfl ?_
          refine pE_goto (tgt := 20) dX0_lookAtRuns_107 (by decide) ?_
          first
          | (have gw : nI (rmB lo (j + 1) &&& w) = nI w := h62
             have gw2 := nq_eq (by omega) (by omega) gw
             have hy : (rnF M k m H a) lo (lo + 1 + j) = true := dcd_t (by have := (hmr (j + 1)).mp ⟨hlb, by omega, gw2, g72⟩; rw [show lo + (j + 1) = lo + 1 + j by omega] at this; exact this)
             refine ih (j + 1) I3 (by omega) (by omega) (((hf.p47 (by decide)).p47 (by decide)).tr (fun c k a b => f3 c k b)) ⟨by rw [f3 _ _ (by decide), pu_at, pu_at]; simpa using hI.1, by rw [f3 _ _ (by decide), pu_at, pu_at]; simpa using hI.2.1, by rw [f3 _ _ (by decide), pu_at, pu_at]; simpa using hI.2.2.1, by rw [f3 _ _ (by decide), pu_at, pu_at]; simpa using hI.2.2.2⟩ ?_ ?_ (fun s hs => ?_)
             · rw [f3 _ _ (by decide), pu_at, if_neg (by decide), pu_at, if_pos ⟨rfl, rfl⟩]
               simp only [c1N, hy, Bool.toNat_true]
               congr 1
             · rw [f3 _ _ (by decide), pu_at, if_pos ⟨rfl, rfl⟩, hS]
               simp only [c1N, hy, Bool.toNat_true]
               rw [if_neg (show ¬ c0 + (c1N (rnF M k m H a) lo j + 1) = 0 by omega)]
               split
               · rfl
               · rw [Int32.or_assoc, Int32.or_self]
             · rw [hY3 s hs]
               simp only [c1N, wiB, hy, Bool.true_and]
               congr 1
               by_cases c : lo ≤ s ∧ s ≤ lo + 1 + j
               · rw [if_pos c, decide_eq_true c.1, decide_eq_true c.2]; simp only [Bool.true_and, Bool.toNat_true]; omega
               · rw [if_neg c, show (decide (lo ≤ s) && decide (s ≤ lo + 1 + j)) = false by rw [← Bool.decide_and]; exact decide_eq_false c]; simp only [Bool.toNat_false]; omega)
          | (have hn : (rnF M k m H a) lo (lo + 1 + j) = false := dcd_f (fun c => by
               rw [show lo + 1 + j = lo + (j + 1) by omega] at c
               have := (hmr (j + 1)).mpr c
               first
               | exact h62 (by rw [this.2.2.1])
               | (have := this.2.2.2; omega))
             refine ih (j + 1) I1 (by omega) (by omega) hf hI ?_ ?_ (fun s hs => ?_)
             · simp only [c1N, hn, Bool.toNat_false, Nat.add_zero]; exact hR
             · simp only [c1N, hn, Bool.toNat_false, Nat.add_zero]; exact hS
             · simp only [c1N, wiB, hn, Bool.false_and, Bool.toNat_false, Nat.add_zero]; exact hY s hs)
        · have a1 := hrl (by omega)
          have a2 : rmB lo (j + 1) &&& w < 2 ^ 21 := Nat.and_lt_two_pow _ hw1
          have a3 : rmB lo (j + 1) &&& w2 < 2 ^ 21 := Nat.and_lt_two_pow _ hw2
          refine pE_iload dX0_lookAtRuns_65 rfl ?_
          refine pE_aload_n dX0_lookAtRuns_67 rfl rfl ?_
          refine pE_getI dX0_lookAtRuns_68 flX0_38 rfl (Or.inl rfl) (by first | assumption | rfl) ?_
          rw [hI.2.1]
          refine pE_iand dX0_lookAtRuns_71 ?_
          rw [nI_and2]
          refine pE_if_ne (tgt := 104) dX0_lookAtRuns_72 (by decide) (fun h72 => ?_) (fun h72 => ?_)
          · have g72 := nq_ne0 (by omega) h72
            refine pE_iincN (c0 := 1) (lc' := [_, _, _, _, _, some (.int _)]) dX0_lookAtRuns_104 rfl rfl rfl rfl ?_
            refine pE_goto (tgt := 20) dX0_lookAtRuns_107 (by decide) ?_
            first
            | (have gw : nI (rmB lo (j + 1) &&& w) = nI w := h62
               have gw2 := nq_eq (by omega) (by omega) gw
               have hy : (rnF M k m H a) lo (lo + 1 + j) = true := dcd_t (by have := (hmr (j + 1)).mp ⟨hlb, by omega, gw2, g72⟩; rw [show lo + (j + 1) = lo + 1 + j by omega] at this; exact this)
               refine ih (j + 1) I3 (by omega) (by omega) (((hf.p47 (by decide)).p47 (by decide)).tr (fun c k a b => f3 c k b)) ⟨by rw [f3 _ _ (by decide), pu_at, pu_at]; simpa using hI.1, by rw [f3 _ _ (by decide), pu_at, pu_at]; simpa using hI.2.1, by rw [f3 _ _ (by decide), pu_at, pu_at]; simpa using hI.2.2.1, by rw [f3 _ _ (by decide), pu_at, pu_at]; simpa using hI.2.2.2⟩ ?_ ?_ (fun s hs => ?_)
               · rw [f3 _ _ (by decide), pu_at, if_neg (by decide), pu_at, if_pos ⟨rfl, rfl⟩]
                 simp only [c1N, hy, Bool.toNat_true]
                 congr 1
               · rw [f3 _ _ (by decide), pu_at, if_pos ⟨rfl, rfl⟩, hS]
                 simp only [c1N, hy, Bool.toNat_true]
                 rw [if_neg (show ¬ c0 + (c1N (rnF M k m H a) lo j + 1) = 0 by omega)]
                 split
                 · rfl
                 · rw [Int32.or_assoc, Int32.or_self]
               · rw [hY3 s hs]
                 simp only [c1N, wiB, hy, Bool.true_and]
                 congr 1
                 by_cases c : lo ≤ s ∧ s ≤ lo + 1 + j
                 · rw [if_pos c, decide_eq_true c.1, decide_eq_true c.2]; simp only [Bool.true_and, Bool.toNat_true]; omega
                 · rw [if_neg c, show (decide (lo ≤ s) && decide (s ≤ lo + 1 + j)) = false by rw [← Bool.decide_and]; exact decide_eq_false c]; simp only [Bool.toNat_false]; omega)
            | (have hn : (rnF M k m H a) lo (lo + 1 + j) = false := dcd_f (fun c => by
                 rw [show lo + 1 + j = lo + (j + 1) by omega] at c
                 have := (hmr (j + 1)).mpr c
                 first
                 | exact h62 (by rw [this.2.2.1])
                 | (have := this.2.2.2; omega))
               refine ih (j + 1) I1 (by omega) (by omega) hf hI ?_ ?_ (fun s hs => ?_)
               · simp only [c1N, hn, Bool.toNat_false, Nat.add_zero]; exact hR
               · simp only [c1N, hn, Bool.toNat_false, Nat.add_zero]; exact hS
               · simp only [c1N, wiB, hn, Bool.false_and, Bool.toNat_false, Nat.add_zero]; exact hY s hs)
          · have g72 := nq_eq0 (by omega) h72
            refine pE_aload_n dX0_lookAtRuns_75 rfl rfl ?_
            refine pE_dupR dX0_lookAtRuns_76 ?_
            refine pE_getI dX0_lookAtRuns_77 flX0_47 rfl (Or.inl rfl) (by first | assumption | rfl) ?_
            rw [hR]
            refine pE_iconst (v := nI 1) dX0_lookAtRuns_80 rfl ?_
            refine pE_iaddN dX0_lookAtRuns_81 ?_
            refine pE_putI dX0_lookAtRuns_82 flX0_47 ftX0 fiX0_11 rfl rfl (by first | assumption | rfl) ?_
            refine pE_aload_n dX0_lookAtRuns_85 rfl rfl ?_
            refine pE_dupR dX0_lookAtRuns_86 ?_
            refine pE_getI dX0_lookAtRuns_87 flX0_50 rfl (Or.inl rfl) (by first | assumption | rfl) ?_
            rw [show pu I1 47 11 (nI (R + (c0 + c1N (rnF M k m H a) lo j) + 1)) 47 12 = I1 47 12 by rw [pu_at, if_neg (by decide)]]
            refine pE_iconst (v := nI 1) dX0_lookAtRuns_90 rfl ?_
            refine pE_iload_n dX0_lookAtRuns_91 rfl rfl ?_
            refine pE_ishl dX0_lookAtRuns_92 ?_
            refine pE_ior dX0_lookAtRuns_93 ?_
            refine pE_putI dX0_lookAtRuns_94 flX0_50 ftX0 fiX0_12 rfl rfl (by first | assumption | rfl) ?_
            refine pE_aload_n dX0_lookAtRuns_97 rfl rfl ?_
            refine pE_iload_n dX0_lookAtRuns_98 rfl rfl ?_
            refine pE_iload dX0_lookAtRuns_99 rfl ?_
            refine pE_callV (d' := 0) (as := [_, _]) dX0_lookAtRuns_101 lkX0_95 (cwX0_noteRun _ _) ivX0_noteRun ⟨_, rfl, rfl⟩ (by first | assumption | rfl) rfl rfl (Nat.le_of_ble_eq_true rfl) (by decide) pKK ?_
            refine M_X0_noteRun (by omega) (by omega) (Y := fun s => Y s + (y0 s + c1N (wiB (rnF M k m H a) s) lo j)) (fun s hs => by rw [pu_ne _ _ _ (by decide), pu_ne _ _ _ (by decide)]; exact hY s hs) (fun I3 f3 hY3 => ?_)
            refine pE_iincN (c0 := 1) (lc' := [_, _, _, _, _, some (.int _)]) dX0_lookAtRuns_104 rfl rfl rfl rfl ?_
            refine pE_goto (tgt := 20) dX0_lookAtRuns_107 (by decide) ?_
            first
            | (have gw : nI (rmB lo (j + 1) &&& w) = nI w := h62
               have gw2 := nq_eq (by omega) (by omega) gw
               have hy : (rnF M k m H a) lo (lo + 1 + j) = true := dcd_t (by have := (hmr (j + 1)).mp ⟨hlb, by omega, gw2, g72⟩; rw [show lo + (j + 1) = lo + 1 + j by omega] at this; exact this)
               refine ih (j + 1) I3 (by omega) (by omega) (((hf.p47 (by decide)).p47 (by decide)).tr (fun c k a b => f3 c k b)) ⟨by rw [f3 _ _ (by decide), pu_at, pu_at]; simpa using hI.1, by rw [f3 _ _ (by decide), pu_at, pu_at]; simpa using hI.2.1, by rw [f3 _ _ (by decide), pu_at, pu_at]; simpa using hI.2.2.1, by rw [f3 _ _ (by decide), pu_at, pu_at]; simpa using hI.2.2.2⟩ ?_ ?_ (fun s hs => ?_)
               · rw [f3 _ _ (by decide), pu_at, if_neg (by decide), pu_at, if_pos ⟨rfl, rfl⟩]
                 simp only [c1N, hy, Bool.toNat_true]
                 congr 1
               · rw [f3 _ _ (by decide), pu_at, if_pos ⟨rfl, rfl⟩, hS]
                 simp only [c1N, hy, Bool.toNat_true]
                 rw [if_neg (show ¬ c0 + (c1N (rnF M k m H a) lo j + 1) = 0 by omega)]
                 split
                 · rfl
                 · rw [Int32.or_assoc, Int32.or_self]
               · rw [hY3 s hs]
                 simp only [c1N, wiB, hy, Bool.true_and]
                 congr 1
                 by_cases c : lo ≤ s ∧ s ≤ lo + 1 + j
                 · rw [if_pos c, decide_eq_true c.1, decide_eq_true c.2]; simp only [Bool.true_and, Bool.toNat_true]; omega
                 · rw [if_neg c, show (decide (lo ≤ s) && decide (s ≤ lo + 1 + j)) = false by rw [← Bool.decide_and]; exact decide_eq_false c]; simp only [Bool.toNat_false]; omega)
            | (have hn : (rnF M k m H a) lo (lo + 1 + j) = false := dcd_f (fun c => by
                 rw [show lo + 1 + j = lo + (j + 1) by omega] at c
                 have := (hmr (j + 1)).mpr c
                 first
                 | exact h62 (by rw [this.2.2.1])
                 | (have := this.2.2.2; omega))
               refine ih (j + 1) I1 (by omega) (by omega) hf hI ?_ ?_ (fun s hs => ?_)
               · simp only [c1N, hn, Bool.toNat_false, Nat.add_zero]; exact hR
               · simp only [c1N, hn, Bool.toNat_false, Nat.add_zero]; exact hS
               · simp only [c1N, wiB, hn, Bool.false_and, Bool.toNat_false, Nat.add_zero]; exact hY s hs)
set_option maxHeartbeats 400000 in
set_option maxRecDepth 100000 in
theorem LO_X0_lookAtRuns {l : Launch} {X : pX} {t g : Nat} {I : pHI} {J : pHJ} {Q : pQ} {R : Nat} {S : Int32} {Y : Nat → Nat} {o a w w2 lh b : Nat} {k : Int32} {m : Nat} {M : pMk} {H : pN} (ho : isH o) (hH : cH o H I) (hr : rH H) (hs : mkS M k m w w2 lh b) (ha : a < H 1) (hlb : lh ≤ H (24 + a) ∧ H (24 + a) < b) (hq : ∀ I2, (sC I I2) → (mkI I2 w w2 lh b) → (I2 47 11 = nI (R + c2N (rnF M k m H a) (H 0) (H 0))) → (I2 47 12 = (if c2N (rnF M k m H a) (H 0) (H 0) = 0 then S else S ||| (nI 1 <<< (nI a &&& 31)))) → (∀ s, s ≤ 20 → I2 53 s = nI (Y s + c2N (wiB (rnF M k m H a) s) (H 0) (H 0))) → Q none I2 J (pR t g)) : ∀ (fu : Nat) (lo : Nat) (v4 : Option Value) (v5 : Option Value) (I1 : pHI), H 0 - lo < fu → (lo ≤ H 0) → (sC I I1) → (mkI I1 w w2 lh b) → (I1 47 11 = nI (R + c2N (rnF M k m H a) (H 0) lo)) → (I1 47 12 = (if c2N (rnF M k m H a) (H 0) lo = 0 then S else S ||| (nI 1 <<< (nI a &&& 31)))) → (∀ s, s ≤ 20 → I1 53 s = nI (Y s + c2N (wiB (rnF M k m H a) s) (H 0) lo)) → pE l X mX0_lookAtRuns 1 pK 2 [some (.ref 47), some (.ref o), some (.int (nI a)), some (.int (nI lo)), v4, v5] [] pK I1 J (pR t g) Q := by
  obtain ⟨fHFho0, fHFho1, fHFho2, fHFho3, fHFho4, fHFho5, fHFho6, fHFho7, fHFho8, fHFho9, fHFho10, fHFho11, fHFho12, fHFho13, fHFho14, fHFho15, fHFho16, fHFho17, fHFho18, fHFho19, fHFho20, fHFho21, fHFho22, fHFho23, fHFho24, fHFho25, fHFho26⟩ := HF t g ho
  intro fu
  induction fu with
  | zero => intro lo v4 v5 I1 hn; exact absurd hn (Nat.not_lt_zero _)
  | succ fu ih =>
    intro lo v4 v5 I1 hn hj hf hI hR hS hY
    have hn20 := hr.1.2
    have hH1 := hH.sC ho hf
    refine pE_iload_n dX0_lookAtRuns_2 rfl rfl ?_
    refine pE_aload_n dX0_lookAtRuns_3 rfl rfl ?_
    refine pE_getI dX0_lookAtRuns_4 flX0_89 rfl (Or.inl rfl) (by first | assumption | rfl) ?_
    rw [hH1.1]
    refine pE_icmp_ge (tgt := 116) dX0_lookAtRuns_7 (by decide) (fun h7 => ?_) (fun h7 => ?_)
    · have g7 := nq_le (by omega) (by omega) h7
      refine pE_vret dX0_lookAtRuns_116 rfl rfl ?_
      obtain rfl : lo = H 0 := by omega
      exact hq _ hf hI hR hS hY
    · have g7 := nq_nle (by omega) (by omega) h7
      refine pE_iconst (v := nI 1) dX0_lookAtRuns_10 rfl ?_
      refine pE_iload_n dX0_lookAtRuns_11 rfl rfl ?_
      refine pE_ishl dX0_lookAtRuns_12 ?_
      rw [shl20 (by omega)]
      refine pE_istore (lc' := [_, _, _, _, some (.int _), _]) dX0_lookAtRuns_13 (Nat.le_of_ble_eq_true rfl) rfl rfl ?_
      refine pE_iload_n dX0_lookAtRuns_15 rfl rfl ?_
      refine pE_iconst (v := nI 1) dX0_lookAtRuns_16 rfl ?_
      refine pE_iaddN dX0_lookAtRuns_17 ?_
      refine pE_istore (lc' := [_, _, _, _, _, some (.int _)]) dX0_lookAtRuns_18 (Nat.le_of_ble_eq_true rfl) rfl rfl ?_
      refine LI_X0_lookAtRuns (I := I1) (R := R) (S := S) (Y := fun s => Y s) (c0 := c2N (rnF M k m H a) (H 0) lo) (y0 := fun s => c2N (wiB (rnF M k m H a) s) (H 0) lo) ho hH1 hr hs ha hlb (by omega) (fun I2 y4 y5 f2 i2 r2 s2 t2 => ?_) (H 0 + 1) 0 I1 (by omega) (by omega) sC.rf hI hR hS hY
      refine pE_iincN (c0 := 1) (lc' := [_, _, _, some (.int _), _, _]) dX0_lookAtRuns_110 rfl rfl rfl rfl ?_
      refine pE_goto (tgt := 2) dX0_lookAtRuns_113 (by decide) ?_
      exact ih (lo + 1) _ _ I2 (by omega) (by omega) (hf.tr f2) i2 r2 s2 t2
set_option maxHeartbeats 400000 in
set_option maxRecDepth 100000 in
theorem M_X0_lookAtRuns {l : Launch} {X : pX} {t g : Nat} {I : pHI} {J : pHJ} {Q : pQ} {R : Nat} {S : Int32} {Y : Nat → Nat} {o a w w2 lh b : Nat} {k : Int32} {m : Nat} {M : pMk} {H : pN} (ho : isH o) (hH : cH o H I) (hr : rH H) (hs : mkS M k m w w2 lh b) (ha : a < H 1) (hlb : lh ≤ H (24 + a) ∧ H (24 + a) < b) (hI : mkI I w w2 lh b) (hR : I 47 11 = nI R) (hS : I 47 12 = S) (hY : ∀ s, s ≤ 20 → I 53 s = nI (Y s)) (hq : ∀ I2, (sC I I2) → (mkI I2 w w2 lh b) → (I2 47 11 = nI (R + c2N (rnF M k m H a) (H 0) (H 0))) → (I2 47 12 = (if c2N (rnF M k m H a) (H 0) (H 0) = 0 then S else S ||| (nI 1 <<< (nI a &&& 31)))) → (∀ s, s ≤ 20 → I2 53 s = nI (Y s + c2N (wiB (rnF M k m H a) s) (H 0) (H 0))) → Q none I2 J (pR t g)) : pM l X yX0_lookAtRuns mX0_lookAtRuns 1 [.ref 47, .ref o, .int (nI a)] pK pK I J (pR t g) Q := by
  refine pM_of rfl (fun h => by cases h) rfl pKM (Nat.le_of_ble_eq_true rfl) ?_
  refine pE_iconst (v := nI 0) dX0_lookAtRuns_0 rfl ?_
  refine pE_istore_n (lc' := [_, _, _, some (.int _), _, _]) dX0_lookAtRuns_1 rfl (Nat.le_of_ble_eq_true rfl) rfl rfl ?_
  exact LO_X0_lookAtRuns (R := R) (S := S) (Y := Y) ho hH hr hs ha hlb hq (H 0 + 1) 0 _ _ I (by omega) (by omega) sC.rf hI hR hS hY
