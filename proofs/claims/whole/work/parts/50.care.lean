set_option maxHeartbeats 400000 in
set_option maxRecDepth 100000 in
theorem L_X11_othersWithBreath {l : Launch} {X : pX} {t g : Nat} {I : pHI} {J : pHJ} {Q : pQ} {a br : Nat} {H T : pN} (ht : isH t) (hH : cH t H I) (hr : rH H) (hS : cS 33 T I) (hrT : rS 999 H T) (ha : a < H 1) (hbr : br ≤ 1000) (hq : Q (some (.int (nI (obS T a br (H 1))))) I J (pR t g)) : ∀ (fu j : Nat), H 1 - j < fu → j ≤ H 1 → pE l X mX11_othersWithBreath 0 pK 5 [some (.ref 0), some (.int (nI a)), some (.int (nI br)), some (.int (nI (obS T a br j))), some (.int (nI j))] [] pK I J (pR t g) Q := by
  obtain ⟨fHFht0, fHFht1, fHFht2, fHFht3, fHFht4, fHFht5, fHFht6, fHFht7, fHFht8, fHFht9, fHFht10, fHFht11, fHFht12, fHFht13, fHFht14, fHFht15, fHFht16, fHFht17, fHFht18, fHFht19, fHFht20, fHFht21, fHFht22, fHFht23, fHFht24, fHFht25, fHFht26⟩ := HF t g ht
  intro fu
  induction fu with
  | zero => intro j hn hj; exact absurd hn (Nat.not_lt_zero _)
  | succ fu ih =>
    intro j hn hj
    have hn8 := hr.2.1
    have hol : j ≤ 8 → obS T a br j < 256 := fun h => ob_lt j h
    have hT40 : j < 8 → T j ≤ 40 := fun h => (hrT.2.2.2.2 j h).1
    refine pE_iload dX11_othersWithBreath_5 rfl ?_
    refine pE_aload_n dX11_othersWithBreath_7 rfl rfl ?_
    refine pE_getR dX11_othersWithBreath_8 flX11_29 rfl (by first | assumption | rfl) (by first | assumption | rfl) ?_
    refine pE_getI dX11_othersWithBreath_11 flX11_110 rfl (Or.inl rfl) (by first | assumption | rfl) ?_
    rw [hH.2.2.1]
    refine pE_icmp_ge (tgt := 50) dX11_othersWithBreath_14 (by decide) (fun h14 => ?_) (fun h14 => ?_)
    · have g14 := nq_le (by omega) (by omega) h14
      refine pE_iload_n dX11_othersWithBreath_50 rfl rfl ?_
      refine pE_iret dX11_othersWithBreath_51 rfl rfl ?_
      obtain rfl : j = H 1 := by omega
      exact hq
    · have g14 := nq_nle (by omega) (by omega) h14
      refine pE_iload dX11_othersWithBreath_17 rfl ?_
      refine pE_iload_n dX11_othersWithBreath_19 rfl rfl ?_
      refine pE_icmp_eq (tgt := 44) dX11_othersWithBreath_20 (by decide) (fun h20 => ?_) (fun h20 => ?_)
      · have g20 := nq_eq (by omega) (by omega) h20
        refine pE_iincN (c0 := 1) (lc' := [_, _, _, _, some (.int _)]) dX11_othersWithBreath_44 rfl rfl rfl rfl ?_
        refine pE_goto (tgt := 5) dX11_othersWithBreath_47 (by decide) ?_
        refine pE_cg (ih (j + 1) (by omega) (by omega)) (by
            simp only [obS]
            first | (rw [if_pos ⟨by omega, by omega⟩]; first | done | rfl) | (rw [if_neg (by omega)]; first | done | rfl)) rfl rfl rfl rfl
      · have g20 := nq_ne (by omega) (by omega) h20
        have hT4 := hT40 (by omega)
        refine pE_aload_n dX11_othersWithBreath_23 rfl rfl ?_
        refine pE_getR dX11_othersWithBreath_24 flX11_39 rfl (by first | assumption | rfl) (by first | assumption | rfl) ?_
        refine pE_getR dX11_othersWithBreath_27 flX11_139 rfl (by first | assumption | rfl) (by first | assumption | rfl) ?_
        refine pE_iload dX11_othersWithBreath_30 rfl ?_
        refine pE_ialoadN dX11_othersWithBreath_32 (by first | assumption | rfl) (by first | assumption | omega) (by omega) ?_
        rw [(hS.2.2.2.2 j (by omega)).1]
        refine pE_iload_n dX11_othersWithBreath_33 rfl rfl ?_
        refine pE_icmp_lt (tgt := 44) dX11_othersWithBreath_34 (by decide) (fun h34 => ?_) (fun h34 => ?_)
        · have g34 := nq_lt (by omega) (by omega) h34
          
          refine pE_iincN (c0 := 1) (lc' := [_, _, _, _, some (.int _)]) dX11_othersWithBreath_44 rfl rfl rfl rfl ?_
          refine pE_goto (tgt := 5) dX11_othersWithBreath_47 (by decide) ?_
          refine pE_cg (ih (j + 1) (by omega) (by omega)) (by
              simp only [obS]
              first | (rw [if_pos ⟨by omega, by omega⟩]; first | done | rfl) | (rw [if_neg (by omega)]; first | done | rfl)) rfl rfl rfl rfl
        · have g34 := nq_nlt (by omega) (by omega) h34
          
          refine pE_iload_n dX11_othersWithBreath_37 rfl rfl ?_
          refine pE_iconst (v := nI 1) dX11_othersWithBreath_38 rfl ?_
          refine pE_iload dX11_othersWithBreath_39 rfl ?_
          refine pE_ishl dX11_othersWithBreath_41 ?_
          refine pE_ior dX11_othersWithBreath_42 ?_
          rw [or_bit (hol (by omega)) (by omega)]
          refine pE_istore_n (lc' := [_, _, _, some (.int _), _]) dX11_othersWithBreath_43 rfl (Nat.le_of_ble_eq_true rfl) rfl rfl ?_
          refine pE_iincN (c0 := 1) (lc' := [_, _, _, _, some (.int _)]) dX11_othersWithBreath_44 rfl rfl rfl rfl ?_
          refine pE_goto (tgt := 5) dX11_othersWithBreath_47 (by decide) ?_
          refine pE_cg (ih (j + 1) (by omega) (by omega)) (by
              simp only [obS]
              first | (rw [if_pos ⟨by omega, by omega⟩]; first | done | rfl) | (rw [if_neg (by omega)]; first | done | rfl)) rfl rfl rfl rfl
set_option maxHeartbeats 400000 in
set_option maxRecDepth 100000 in
theorem M_X11_othersWithBreath {l : Launch} {X : pX} {t g : Nat} {I : pHI} {J : pHJ} {Q : pQ} {a br : Nat} {H T : pN} (ht : isH t) (hH : cH t H I) (hr : rH H) (hS : cS 33 T I) (hrT : rS 999 H T) (ha : a < H 1) (hbr : br ≤ 1000) (hq : Q (some (.int (nI (obS T a br (H 1))))) I J (pR t g)) : pM l X yX11_othersWithBreath mX11_othersWithBreath 0 [.ref 0, .int (nI a), .int (nI br)] pK pK I J (pR t g) Q := by
  have hn8 := hr.2.1
  refine pM_of rfl (fun h => by cases h) rfl pKM (Nat.le_of_ble_eq_true rfl) ?_
  refine pE_iconst (v := nI 0) dX11_othersWithBreath_0 rfl ?_
  refine pE_istore_n (lc' := [_, _, _, some (.int _), _]) dX11_othersWithBreath_1 rfl (Nat.le_of_ble_eq_true rfl) rfl rfl ?_
  refine pE_iconst (v := nI 0) dX11_othersWithBreath_2 rfl ?_
  refine pE_istore (lc' := [_, _, _, _, some (.int _)]) dX11_othersWithBreath_3 (Nat.le_of_ble_eq_true rfl) rfl rfl ?_
  exact L_X11_othersWithBreath ht hH hr hS hrT ha hbr hq (H 1 + 1) 0 (by omega) (by omega)
set_option maxHeartbeats 400000 in
set_option maxRecDepth 100000 in
theorem L_X11_fewestStoreysFor {l : Launch} {X : pX} {t g : Nat} {I : pHI} {J : pHJ} {Q : pQ} {lk : Nat} {H T : pN} {p : pP} (ht : isH t) (hH : cH t H I) (hr : rH H) (hS : cS 33 T I) (hrT : rS 999 H T) (hF : cF (t + 6) p I) (hw : wfp p 0) (hlk : lk < 2 ^ 31) (hq : ∀ I1, sb I I1 → Q (some (.int (oI (sfN p H T lk)))) I1 J (pR t g)) : ∀ (fu : Nat) (j : Nat) (I1 : pHI), H 0 + 1 - j < fu → (j ≤ H 0 + 1) → (sb I I1) → (sfN p H T lk = fstN (sfP p T lk) (H 0 + 1) (H 0 + 1 - j)) → pE l X mX11_fewestStoreysFor 3 pK 2 [some (.ref 0), some (.int (nI lk)), some (.int (nI j))] [] pK I1 J (pR t g) Q := by
  obtain ⟨fHFht0, fHFht1, fHFht2, fHFht3, fHFht4, fHFht5, fHFht6, fHFht7, fHFht8, fHFht9, fHFht10, fHFht11, fHFht12, fHFht13, fHFht14, fHFht15, fHFht16, fHFht17, fHFht18, fHFht19, fHFht20, fHFht21, fHFht22, fHFht23, fHFht24, fHFht25, fHFht26⟩ := HF t g ht
  intro fu
  induction fu with
  | zero => intro j I1 hn; exact absurd hn (Nat.not_lt_zero _)
  | succ fu ih =>
    intro j I1 hn hj hx he
    have hn20 := hr.1.2
    have hcl : cntN p T j 0 0 (T 24) ≤ 999 := clp_le _ _
    have hH1 := hH.sx ht (Or.inl rfl) hx.sx
    have hS1 := hS.sb (Or.inl rfl) hx
    have hst : j < H 0 + 1 → _ := fst_step (P := sfP p T lk)
    refine pE_iload_n dX11_fewestStoreysFor_2 rfl rfl ?_
    refine pE_aload_n dX11_fewestStoreysFor_3 rfl rfl ?_
    refine pE_getR dX11_fewestStoreysFor_4 flX11_29 rfl (by first | assumption | rfl) (by first | assumption | rfl) ?_
    refine pE_getI dX11_fewestStoreysFor_7 flX11_210 rfl (Or.inl rfl) (by first | assumption | rfl) ?_
    rw [hH1.1]
    refine pE_icmp_gt (tgt := 46) dX11_fewestStoreysFor_10 (by decide) (fun h10 => ?_) (fun h10 => ?_)
    · have g10 := nq_lt (by omega) (by omega) h10
      refine pE_iconst (v := -1) dX11_fewestStoreysFor_46 rfl ?_
      refine pE_iret dX11_fewestStoreysFor_47 rfl rfl ?_
      obtain rfl : j = H 0 + 1 := by omega
      have h9 := hq _ hx
      rw [he, Nat.sub_self] at h9
      exact h9
    · have g10 := nq_nlt (by omega) (by omega) h10
      refine pE_aload_n dX11_fewestStoreysFor_13 rfl rfl ?_
      refine pE_getR dX11_fewestStoreysFor_14 flX11_29 rfl (by first | assumption | rfl) (by first | assumption | rfl) ?_
      refine pE_aload_n dX11_fewestStoreysFor_17 rfl rfl ?_
      refine pE_getR dX11_fewestStoreysFor_18 flX11_39 rfl (by first | assumption | rfl) (by first | assumption | rfl) ?_
      refine pE_iload_n dX11_fewestStoreysFor_21 rfl rfl ?_
      refine pE_iconst (v := nI 0) dX11_fewestStoreysFor_22 rfl ?_
      refine pE_iconst (v := nI 0) dX11_fewestStoreysFor_23 rfl ?_
      refine pE_aload_n dX11_fewestStoreysFor_24 rfl rfl ?_
      refine pE_getR dX11_fewestStoreysFor_25 flX11_39 rfl (by first | assumption | rfl) (by first | assumption | rfl) ?_
      refine pE_getI dX11_fewestStoreysFor_28 flX11_160 rfl (Or.inl rfl) (by first | assumption | rfl) ?_
      rw [hS1.1]
      refine pE_callV (d' := 2) (as := [_, _, _, _, _]) dX11_fewestStoreysFor_31 lkX11_163 (cwX2_countOf _ _) ivX2_countOf ⟨_, rfl, rfl⟩ (by first | assumption | rfl) rfl rfl (Nat.le_of_ble_eq_true rfl) (by decide) pKK ?_
      refine M_X2_countOf ht (Or.inl rfl) hS1 (hF.sb (isF_c ht) hx) hw (fun I2 hb2 => ?_)
      refine pE_iload_n dX11_fewestStoreysFor_34 rfl rfl ?_
      refine pE_icmp_lt (tgt := 40) dX11_fewestStoreysFor_35 (by decide) (fun h35 => ?_) (fun h35 => ?_)
      · have g35 := nq_lt (by omega) (by omega) h35
        refine pE_iincN (c0 := 1) (lc' := [_, _, some (.int _)]) dX11_fewestStoreysFor_40 rfl rfl rfl rfl ?_
        refine pE_goto (tgt := 2) dX11_fewestStoreysFor_43 (by decide) ?_
        exact ih (j + 1) I2 (by omega) (by omega) (hx.tr hb2) (by rw [he, hst (by omega), if_neg (show ¬ sfP p T lk j = true from fun h => by have h := of_decide_eq_true h; omega)])
      · have g35 := nq_nlt (by omega) (by omega) h35
        refine pE_iload_n dX11_fewestStoreysFor_38 rfl rfl ?_
        refine pE_iret dX11_fewestStoreysFor_39 rfl rfl ?_
        have h9 := hq _ (hx.tr hb2)
        rw [he, hst (by omega), if_pos (show sfP p T lk j = true from decide_eq_true g35)] at h9
        exact h9
set_option maxHeartbeats 400000 in
set_option maxRecDepth 100000 in
theorem M_X11_fewestStoreysFor {l : Launch} {X : pX} {t g : Nat} {I : pHI} {J : pHJ} {Q : pQ} {lk : Nat} {H T : pN} {p : pP} (ht : isH t) (hH : cH t H I) (hr : rH H) (hS : cS 33 T I) (hrT : rS 999 H T) (hF : cF (t + 6) p I) (hw : wfp p 0) (hlk : lk < 2 ^ 31) (hq : ∀ I1, sb I I1 → Q (some (.int (oI (sfN p H T lk)))) I1 J (pR t g)) : pM l X yX11_fewestStoreysFor mX11_fewestStoreysFor 3 [.ref 0, .int (nI lk)] pK pK I J (pR t g) Q := by
  have hr1 := hr.1.1
  refine pM_of rfl (fun h => by cases h) rfl pKM (Nat.le_of_ble_eq_true rfl) ?_
  refine pE_iconst (v := nI 1) dX11_fewestStoreysFor_0 rfl ?_
  refine pE_istore_n (lc' := [_, _, some (.int _)]) dX11_fewestStoreysFor_1 rfl (Nat.le_of_ble_eq_true rfl) rfl rfl ?_
  exact L_X11_fewestStoreysFor ht hH hr hS hrT hF hw hlk hq (H 0 + 1) 1 I (by omega) (by omega) sb.rf (by rw [show H 0 + 1 - 1 = H 0 by omega]; rfl)
set_option maxHeartbeats 400000 in
set_option maxRecDepth 100000 in
theorem L_X11_care {l : Launch} {X : pX} {t g : Nat} {I : pHI} {J : pHJ} {Q : pQ} {H T : pN} (ht : isH t) (hH : cH t H I) (hr : rH H) (hS : cS 33 T I) (hrT : rS 999 H T) (hq : ∀ I1, (∀ c k, ¬ scF c k → ¬ (54 ≤ c ∧ c ≤ 58) → c ≠ 45 → c ≠ 46 → I1 c k = I c k) → cL 45 1 46 I1 (H 1) (fun i => oI (chN (canS (svC H T)) (fun _ => 0) (H 1) i)) → Q (some (.int (nI (btN (canS (svC H T)) (fun _ => 0) (H 1) 0 0).1))) I1 J (pR t g)) : ∀ (fu : Nat) (j : Nat) (v2 : Option Value) (I1 : pHI), H 1 - j < fu → (j ≤ H 1) → (sQ I I1) → (cPj I1 (H 1) (svC H T) (fun _ => 0) j) → pE l X mX11_care 4 pK 16 [some (.ref 0), some (.int (nI j)), v2] [] pK I1 J (pR t g) Q := by
  obtain ⟨fHFht0, fHFht1, fHFht2, fHFht3, fHFht4, fHFht5, fHFht6, fHFht7, fHFht8, fHFht9, fHFht10, fHFht11, fHFht12, fHFht13, fHFht14, fHFht15, fHFht16, fHFht17, fHFht18, fHFht19, fHFht20, fHFht21, fHFht22, fHFht23, fHFht24, fHFht25, fHFht26⟩ := HF t g ht
  intro fu
  induction fu with
  | zero => intro j v2 I1 hn; exact absurd hn (Nat.not_lt_zero _)
  | succ fu ih =>
    intro j v2 I1 hn hj hx hc
    have hn8 := hr.2.1
    have hn20 := hr.1.2
    have hH1 := hH.sQ ht hx
    have hS1 := hS.sQ hx
    refine pE_iload_n dX11_care_16 rfl rfl ?_
    refine pE_aload_n dX11_care_17 rfl rfl ?_
    refine pE_getR dX11_care_18 flX11_29 rfl (by first | assumption | rfl) (by first | assumption | rfl) ?_
    refine pE_getI dX11_care_21 flX11_110 rfl (Or.inl rfl) (by first | assumption | rfl) ?_
    rw [hH1.2.2.1]
    refine pE_icmp_ge (tgt := 86) dX11_care_24 (by decide) (fun h24 => ?_) (fun h24 => ?_)
    · have g24 := nq_le (by omega) (by omega) h24
      obtain rfl : j = H 1 := by omega
      refine pE_aload_n dX11_care_86 rfl rfl ?_
      refine pE_getR dX11_care_87 flX11_70 rfl (by first | assumption | rfl) (by first | assumption | rfl) ?_
      refine pE_callV (d' := 3) (as := []) dX11_care_90 lkX11_248 (cwX6_solve _ _) ivX6_solve ⟨_, rfl, rfl⟩ (by first | assumption | rfl) rfl rfl (Nat.le_of_ble_eq_true rfl) (by decide) pKK ?_
      refine M_X6_solve hc.all (rP_C hn8) (fun I2 f2 h2 => ?_)
      refine pE_aload_n dX11_care_93 rfl rfl ?_
      refine pE_getR dX11_care_94 flX11_70 rfl (by first | assumption | rfl) (by first | assumption | rfl) ?_
      refine pE_aload_n dX11_care_97 rfl rfl ?_
      refine pE_getR dX11_care_98 flX11_56 rfl (by first | assumption | rfl) (by first | assumption | rfl) ?_
      refine pE_callV (d' := 1) (as := [_]) dX11_care_101 lkX11_251 (cwX6_layTo _ _) ivX6_layTo ⟨_, rfl, rfl⟩ (by first | assumption | rfl) rfl rfl (Nat.le_of_ble_eq_true rfl) (by decide) pKK ?_
      refine M_X6_layTo hn8 ((f2 54 0 (by decide) (by decide)).trans hc.1) h2 (fun I3 f3 h3 => ?_)
      refine pE_aload_n dX11_care_104 rfl rfl ?_
      refine pE_getR dX11_care_105 flX11_70 rfl (by first | assumption | rfl) (by first | assumption | rfl) ?_
      refine pE_callV (d' := 0) (as := []) dX11_care_108 lkX11_255 (cwX6_pairs _ _) ivX6_pairs ⟨_, rfl, rfl⟩ (by first | assumption | rfl) rfl rfl (Nat.le_of_ble_eq_true rfl) (by decide) pKK ?_
      refine M_X6_pairs (o := fun i => chN (canS (svC H T)) (fun _ => 0) (H 1) i) hn8 ((f3 54 0 (by decide) (by decide)).trans ((f2 54 0 (by decide) (by decide)).trans hc.1)) (fun i hi => (f3 57 i (by decide) (by decide)).trans (h2 i hi)) (fun i b _ e => oI_nb hn8 e) ?_
      refine pE_iret dX11_care_111 rfl rfl ?_
      rw [← (ch_all (C := canS (svC H T)) (pr := fun _ => 0) (n := H 1)).1]
      exact hq _ (fun c k a b d e => (f3 c k d e).trans ((f2 c k (by omega) (by omega)).trans (hx c k a b))) h3
    · have g24 := nq_nle (by omega) (by omega) h24
      have hon := (hr.2.2.2.2 j (by omega)).1
      have hv9 := (hr.2.2.2.2 j (by omega)).2.2.1
      have hbr : brN (H (8 + j)) (H (24 + j)) ≤ 80 := by unfold brN; exact Nat.le_trans (Nat.mul_le_mul (by omega : H (8 + j) ≤ 20) (by omega : 1 + H (24 + j) / 3 ≤ 4)) (by omega)
      refine pE_aload_n dX11_care_27 rfl rfl ?_
      refine pE_getR dX11_care_28 flX11_29 rfl (by first | assumption | rfl) (by first | assumption | rfl) ?_
      refine pE_getR dX11_care_31 flX11_123 rfl (by first | assumption | rfl) (by first | assumption | rfl) ?_
      refine pE_iload_n dX11_care_34 rfl rfl ?_
      refine pE_ialoadN dX11_care_35 (by first | assumption | rfl) (by first | assumption | omega) (by omega) ?_
      rw [(hH1.2.2.2.2.2 j (by omega)).1]
      refine pE_if_le (tgt := 80) dX11_care_36 (by decide) (fun h36 => ?_) (fun h36 => ?_)
      · have g36 := nq_le0 (by omega) h36
        refine pE_iincN (c0 := 1) (lc' := [_, some (.int _), _]) dX11_care_80 rfl rfl rfl rfl ?_
        refine pE_goto (tgt := 16) dX11_care_83 (by decide) ?_
        first
        | (have hz : H (8 + j) = 0 := g36; exact ih (j + 1) _ I1 (by omega) (by omega) hx (hc.skip (by unfold svC; rw [if_neg (by omega)]) rfl))
        | exact ih (j + 1) _ _ (by omega) (by omega) (fun c k a b => by rw [pu_ne _ _ _ (by omega), pu_ne _ _ _ (by omega)]; exact hx c k a b) (hc.put (by unfold svC; rw [if_pos (by omega)]) rfl)
      · have g36 := nq_nle0 (by omega) h36
        refine pE_aload_n dX11_care_39 rfl rfl ?_
        refine pE_getR dX11_care_40 flX11_29 rfl (by first | assumption | rfl) (by first | assumption | rfl) ?_
        refine pE_aload_n dX11_care_43 rfl rfl ?_
        refine pE_getR dX11_care_44 flX11_29 rfl (by first | assumption | rfl) (by first | assumption | rfl) ?_
        refine pE_getR dX11_care_47 flX11_123 rfl (by first | assumption | rfl) (by first | assumption | rfl) ?_
        refine pE_iload_n dX11_care_50 rfl rfl ?_
        refine pE_ialoadN dX11_care_51 (by first | assumption | rfl) (by first | assumption | omega) (by omega) ?_
        rw [(hH1.2.2.2.2.2 j (by omega)).1]
        refine pE_aload_n dX11_care_52 rfl rfl ?_
        refine pE_getR dX11_care_53 flX11_29 rfl (by first | assumption | rfl) (by first | assumption | rfl) ?_
        refine pE_getR dX11_care_56 flX11_130 rfl (by first | assumption | rfl) (by first | assumption | rfl) ?_
        refine pE_iload_n dX11_care_59 rfl rfl ?_
        refine pE_ialoadN dX11_care_60 (by first | assumption | rfl) (by first | assumption | omega) (by omega) ?_
        rw [(hH1.2.2.2.2.2 j (by omega)).2.2.1]
        refine pE_callV (d' := 0) (as := [_, _]) dX11_care_61 lkX11_167 (cwX2_breathFor _ _) ivX2_breathFor ⟨_, rfl, rfl⟩ (by first | assumption | rfl) rfl rfl (Nat.le_of_ble_eq_true rfl) (by decide) pKK ?_
        refine M_X2_breathFor ht (by omega) (by omega) ?_
        refine pE_istore_n (lc' := [_, _, some (.int _)]) dX11_care_64 rfl (Nat.le_of_ble_eq_true rfl) rfl rfl ?_
        refine pE_aload_n dX11_care_65 rfl rfl ?_
        refine pE_getR dX11_care_66 flX11_70 rfl (by first | assumption | rfl) (by first | assumption | rfl) ?_
        refine pE_iload_n dX11_care_69 rfl rfl ?_
        refine pE_aload_n dX11_care_70 rfl rfl ?_
        refine pE_iload_n dX11_care_71 rfl rfl ?_
        refine pE_iload_n dX11_care_72 rfl rfl ?_
        refine pE_callV (d' := 0) (as := [_, _]) dX11_care_73 lkX11_241 (cwX11_othersWithBreath _ _) ivX11_othersWithBreath ⟨_, rfl, rfl⟩ (by first | assumption | rfl) rfl rfl (Nat.le_of_ble_eq_true rfl) (by decide) pKK ?_
        refine M_X11_othersWithBreath ht hH1 hr hS1 hrT (by omega) (by omega) ?_
        refine pE_iconst (v := nI 0) dX11_care_76 rfl ?_
        refine pE_callV (d' := 0) (as := [_, _, _]) dX11_care_77 lkX11_244 (cwX6_allow _ _) ivX6_allow ⟨_, rfl, rfl⟩ (by first | assumption | rfl) rfl rfl (Nat.le_of_ble_eq_true rfl) (by decide) pKK ?_
        refine M_X6_allow hc.1 (by omega) hn8 ?_
        refine pE_iincN (c0 := 1) (lc' := [_, some (.int _), _]) dX11_care_80 rfl rfl rfl rfl ?_
        refine pE_goto (tgt := 16) dX11_care_83 (by decide) ?_
        first
        | (have hz : H (8 + j) = 0 := g36; exact ih (j + 1) _ I1 (by omega) (by omega) hx (hc.skip (by unfold svC; rw [if_neg (by omega)]) rfl))
        | exact ih (j + 1) _ _ (by omega) (by omega) (fun c k a b => by rw [pu_ne _ _ _ (by omega), pu_ne _ _ _ (by omega)]; exact hx c k a b) (hc.put (by unfold svC; rw [if_pos (by omega)]) rfl)
set_option maxHeartbeats 400000 in
set_option maxRecDepth 100000 in
theorem M_X11_care {l : Launch} {X : pX} {t g : Nat} {I : pHI} {J : pHJ} {Q : pQ} {H T : pN} (ht : isH t) (hH : cH t H I) (hr : rH H) (hS : cS 33 T I) (hrT : rS 999 H T) (hq : ∀ I1, (∀ c k, ¬ scF c k → ¬ (54 ≤ c ∧ c ≤ 58) → c ≠ 45 → c ≠ 46 → I1 c k = I c k) → cL 45 1 46 I1 (H 1) (fun i => oI (chN (canS (svC H T)) (fun _ => 0) (H 1) i)) → Q (some (.int (nI (btN (canS (svC H T)) (fun _ => 0) (H 1) 0 0).1))) I1 J (pR t g)) : pM l X yX11_care mX11_care 4 [.ref 0] pK pK I J (pR t g) Q := by
  obtain ⟨fHFht0, fHFht1, fHFht2, fHFht3, fHFht4, fHFht5, fHFht6, fHFht7, fHFht8, fHFht9, fHFht10, fHFht11, fHFht12, fHFht13, fHFht14, fHFht15, fHFht16, fHFht17, fHFht18, fHFht19, fHFht20, fHFht21, fHFht22, fHFht23, fHFht24, fHFht25, fHFht26⟩ := HF t g ht
  have hn8 := hr.2.1
  refine pM_of rfl (fun h => by cases h) rfl pKM (Nat.le_of_ble_eq_true rfl) ?_
  refine pE_aload_n dX11_care_0 rfl rfl ?_
  refine pE_getR dX11_care_1 flX11_70 rfl (by first | assumption | rfl) (by first | assumption | rfl) ?_
  refine pE_aload_n dX11_care_4 rfl rfl ?_
  refine pE_getR dX11_care_5 flX11_29 rfl (by first | assumption | rfl) (by first | assumption | rfl) ?_
  refine pE_getI dX11_care_8 flX11_110 rfl (Or.inl rfl) (by first | assumption | rfl) ?_
  rw [hH.2.2.1]
  refine pE_callV (d' := 1) (as := [_]) dX11_care_11 lkX11_239 (cwX6_clear _ _) ivX6_clear ⟨_, rfl, rfl⟩ (by first | assumption | rfl) rfl rfl (Nat.le_of_ble_eq_true rfl) (by decide) pKK ?_
  refine M_X6_clear hn8 (fun I1 f1 h0 h1 => ?_)
  refine pE_iconst (v := nI 0) dX11_care_14 rfl ?_
  refine pE_istore_n (lc' := [_, some (.int _), _]) dX11_care_15 rfl (Nat.le_of_ble_eq_true rfl) rfl rfl ?_
  exact L_X11_care ht hH hr hS hrT hq (H 1 + 1) 0 _ I1 (by omega) (by omega) (fun c k a b => f1 c k (by omega)) ⟨h0, fun i hi => ⟨by rw [(h1 i (by omega)).1, if_neg (by omega)], by rw [(h1 i (by omega)).2.1, if_neg (by omega)]⟩⟩
set_option maxHeartbeats 400000 in
set_option maxRecDepth 100000 in
theorem L_X11_pairProxies {l : Launch} {X : pX} {t g : Nat} {I : pHI} {J : pHJ} {Q : pQ} {H T : pN} {p : pP} (ht : isH t) (hH : cH t H I) (hr : rH H) (hS : cS 33 T I) (hrT : rS 999 H T) (hF : cF (t + 6) p I) (hw : wfp p 0) (hq : ∀ I1, sQ I I1 → I1 54 0 = nI (H 1) → (∀ i, i < H 1 → I1 56 i = nI (prP p H T i)) → (∀ i, i < H 1 → I1 57 i = oI (chN (canS (svP p H T)) (prP p H T) (H 1) i)) → Q none I1 J (pR t g)) : ∀ (fu : Nat) (j : Nat) (v2 : Option Value) (v3 : Option Value) (v4 : Option Value) (I1 : pHI), H 1 - j < fu → (j ≤ H 1) → (sQ I I1) → (cPj I1 (H 1) (svP p H T) (prP p H T) j) → pE l X mX11_pairProxies 4 pK 16 [some (.ref 0), some (.int (nI j)), v2, v3, v4] [] pK I1 J (pR t g) Q := by
  obtain ⟨fHFht0, fHFht1, fHFht2, fHFht3, fHFht4, fHFht5, fHFht6, fHFht7, fHFht8, fHFht9, fHFht10, fHFht11, fHFht12, fHFht13, fHFht14, fHFht15, fHFht16, fHFht17, fHFht18, fHFht19, fHFht20, fHFht21, fHFht22, fHFht23, fHFht24, fHFht25, fHFht26⟩ := HF t g ht
  intro fu
  induction fu with
  | zero => intro j v2 v3 v4 I1 hn; exact absurd hn (Nat.not_lt_zero _)
  | succ fu ih =>
    intro j v2 v3 v4 I1 hn hj hx hc
    have hn8 := hr.2.1
    have hn20 := hr.1.2
    have hH1 := hH.sQ ht hx
    have hS1 := hS.sQ hx
    have hF1 := hF.sQ (isF_c ht) hx
    refine pE_iload_n dX11_pairProxies_16 rfl rfl ?_
    refine pE_aload_n dX11_pairProxies_17 rfl rfl ?_
    refine pE_getR dX11_pairProxies_18 flX11_29 rfl (by first | assumption | rfl) (by first | assumption | rfl) ?_
    refine pE_getI dX11_pairProxies_21 flX11_110 rfl (Or.inl rfl) (by first | assumption | rfl) ?_
    rw [hH1.2.2.1]
    refine pE_icmp_ge (tgt := 88) dX11_pairProxies_24 (by decide) (fun h24 => ?_) (fun h24 => ?_)
    · have g24 := nq_le (by omega) (by omega) h24
      obtain rfl : j = H 1 := by omega
      refine pE_aload_n dX11_pairProxies_88 rfl rfl ?_
      refine pE_getR dX11_pairProxies_89 flX11_70 rfl (by first | assumption | rfl) (by first | assumption | rfl) ?_
      refine pE_callV (d' := 3) (as := []) dX11_pairProxies_92 lkX11_248 (cwX6_solve _ _) ivX6_solve ⟨_, rfl, rfl⟩ (by first | assumption | rfl) rfl rfl (Nat.le_of_ble_eq_true rfl) (by decide) pKK ?_
      refine M_X6_solve hc.all (rP_P hr) (fun I2 f2 h2 => ?_)
      refine pE_vret dX11_pairProxies_95 rfl rfl ?_
      exact hq _ (hx.tr f2.sQ) ((f2 54 0 (by decide) (by decide)).trans hc.1) (fun i hi => (f2 56 i (by decide) (by decide)).trans (hc.all.2 i hi).2) h2
    · have g24 := nq_nle (by omega) (by omega) h24
      have hlb := lack_leB hr hrT (show j < 8 by omega)
      refine pE_aload_n dX11_pairProxies_27 rfl rfl ?_
      refine pE_getR dX11_pairProxies_28 flX11_29 rfl (by first | assumption | rfl) (by first | assumption | rfl) ?_
      refine pE_aload_n dX11_pairProxies_31 rfl rfl ?_
      refine pE_getR dX11_pairProxies_32 flX11_39 rfl (by first | assumption | rfl) (by first | assumption | rfl) ?_
      refine pE_iload_n dX11_pairProxies_35 rfl rfl ?_
      refine pE_callV (d' := 1) (as := [_, _]) dX11_pairProxies_36 lkX11_148 (cwX2_lackOf _ _) ivX2_lackOf ⟨_, rfl, rfl⟩ (by first | assumption | rfl) rfl rfl (Nat.le_of_ble_eq_true rfl) (by decide) pKK ?_
      refine M_X2_lackOf (H := H) (T := T) ht (Or.inl rfl) (by omega) (hH1.2.2.2.2.2 j (by omega)).2.2.2.1 (hS1.2.2.2.2 j (by omega)).2.2 (hS1.2.2.2.2 j (by omega)).2.1 hlb.1 hlb.2.1 hlb.2.2.1 ?_
      refine pE_istore_n (lc' := [_, _, some (.int _), _, _]) dX11_pairProxies_39 rfl (Nat.le_of_ble_eq_true rfl) rfl rfl ?_
      refine pE_iload_n dX11_pairProxies_40 rfl rfl ?_
      refine pE_if_le (tgt := 82) dX11_pairProxies_41 (by decide) (fun h41 => ?_) (fun h41 => ?_)
      · have g41 := nq_le0 (by omega) h41
        refine pE_iincN (c0 := 1) (lc' := [_, some (.int _), _, _, _]) dX11_pairProxies_82 rfl rfl rfl rfl ?_
        refine pE_goto (tgt := 16) dX11_pairProxies_85 (by decide) ?_
        exact ih (j + 1) _ _ _ I1 (by omega) (by omega) hx (hc.skip (by unfold svP; rw [show pxO p H T j = none from (by unfold pxO; rw [if_neg (by omega)])]) (by unfold prP; rw [show pxO p H T j = none from (by unfold pxO; rw [if_neg (by omega)])]))
      · have g41 := nq_nle0 (by omega) h41
        refine pE_aload_n dX11_pairProxies_44 rfl rfl ?_
        refine pE_iload_n dX11_pairProxies_45 rfl rfl ?_
        refine pE_callV (d' := 3) (as := [_]) dX11_pairProxies_46 lkX11_264 (cwX11_fewestStoreysFor _ _) ivX11_fewestStoreysFor ⟨_, rfl, rfl⟩ (by first | assumption | rfl) rfl rfl (Nat.le_of_ble_eq_true rfl) (by decide) pKK ?_
        refine M_X11_fewestStoreysFor ht hH1 hr hS1 hrT hF1 hw (by omega) (fun I2 hb2 => ?_)
        have epx : pxO p H T j = sfN p H T (lackN H T j) := by unfold pxO; rw [if_pos (by omega)]
        have hx2 := hx.tr hb2.sQ
        have hc2 := hc.sb hb2
        have hH2 := hH.sQ ht hx2
        have hS2 := hS.sQ hx2
        cases e : sfN p H T (lackN H T j) with
        | none =>
          rw [show oI none = (-1 : Int32) from rfl]
          refine pE_istore_n (lc' := [_, _, _, some (.int _), _]) dX11_pairProxies_49 rfl (Nat.le_of_ble_eq_true rfl) rfl rfl ?_
          refine pE_iload_n dX11_pairProxies_50 rfl rfl ?_
          refine pE_iconst (v := -1) dX11_pairProxies_51 rfl ?_
          refine pE_icmp_eq (tgt := 82) dX11_pairProxies_52 (by decide) (fun h52 => ?_) (fun h52 => ?_)
          · refine pE_iincN (c0 := 1) (lc' := [_, some (.int _), _, _, _]) dX11_pairProxies_82 rfl rfl rfl rfl ?_
            refine pE_goto (tgt := 16) dX11_pairProxies_85 (by decide) ?_
            exact ih (j + 1) _ _ _ I2 (by omega) (by omega) hx2 (hc2.skip (by unfold svP; rw [epx, e]) (by unfold prP; rw [epx, e]))
          · exact absurd rfl h52
        | some s =>
          have hs := sf_some e
          rw [show oI (some s) = nI s from rfl]
          refine pE_istore_n (lc' := [_, _, _, some (.int _), _]) dX11_pairProxies_49 rfl (Nat.le_of_ble_eq_true rfl) rfl rfl ?_
          refine pE_iload_n dX11_pairProxies_50 rfl rfl ?_
          refine pE_iconst (v := -1) dX11_pairProxies_51 rfl ?_
          refine pE_icmp_eq (tgt := 82) dX11_pairProxies_52 (by decide) (fun h52 => ?_) (fun h52 => ?_)
          · exact absurd h52 (nI_m1n (by omega))
          · refine pE_aload_n dX11_pairProxies_55 rfl rfl ?_
            refine pE_getR dX11_pairProxies_56 flX11_29 rfl (by first | assumption | rfl) (by first | assumption | rfl) ?_
            refine pE_iload_n dX11_pairProxies_59 rfl rfl ?_
            refine pE_iconst (v := nI 0) dX11_pairProxies_60 rfl ?_
            refine pE_callV (d' := 0) (as := [_, _]) dX11_pairProxies_61 lkX11_167 (cwX2_breathFor _ _) ivX2_breathFor ⟨_, rfl, rfl⟩ (by first | assumption | rfl) rfl rfl (Nat.le_of_ble_eq_true rfl) (by decide) pKK ?_
            refine M_X2_breathFor ht (by omega) (by omega) ?_
            rw [brN0]
            refine pE_istore (lc' := [_, _, _, _, some (.int _)]) dX11_pairProxies_64 (Nat.le_of_ble_eq_true rfl) rfl rfl ?_
            refine pE_aload_n dX11_pairProxies_66 rfl rfl ?_
            refine pE_getR dX11_pairProxies_67 flX11_70 rfl (by first | assumption | rfl) (by first | assumption | rfl) ?_
            refine pE_iload_n dX11_pairProxies_70 rfl rfl ?_
            refine pE_aload_n dX11_pairProxies_71 rfl rfl ?_
            refine pE_iload_n dX11_pairProxies_72 rfl rfl ?_
            refine pE_iload dX11_pairProxies_73 rfl ?_
            refine pE_callV (d' := 0) (as := [_, _]) dX11_pairProxies_75 lkX11_241 (cwX11_othersWithBreath _ _) ivX11_othersWithBreath ⟨_, rfl, rfl⟩ (by first | assumption | rfl) rfl rfl (Nat.le_of_ble_eq_true rfl) (by decide) pKK ?_
            refine M_X11_othersWithBreath ht hH2 hr hS2 hrT (by omega) (by omega) ?_
            refine pE_iload_n dX11_pairProxies_78 rfl rfl ?_
            refine pE_callV (d' := 0) (as := [_, _, _]) dX11_pairProxies_79 lkX11_244 (cwX6_allow _ _) ivX6_allow ⟨_, rfl, rfl⟩ (by first | assumption | rfl) rfl rfl (Nat.le_of_ble_eq_true rfl) (by decide) pKK ?_
            refine M_X6_allow hc2.1 (by omega) hn8 ?_
            refine pE_iincN (c0 := 1) (lc' := [_, some (.int _), _, _, _]) dX11_pairProxies_82 rfl rfl rfl rfl ?_
            refine pE_goto (tgt := 16) dX11_pairProxies_85 (by decide) ?_
            exact ih (j + 1) _ _ _ _ (by omega) (by omega) (fun c k a b => by rw [pu_ne _ _ _ (by omega), pu_ne _ _ _ (by omega)]; exact hx2 c k a b) (hc2.put (by unfold svP; rw [epx, e]) (by unfold prP; rw [epx, e]))
set_option maxHeartbeats 400000 in
set_option maxRecDepth 100000 in
theorem M_X11_pairProxies {l : Launch} {X : pX} {t g : Nat} {I : pHI} {J : pHJ} {Q : pQ} {H T : pN} {p : pP} (ht : isH t) (hH : cH t H I) (hr : rH H) (hS : cS 33 T I) (hrT : rS 999 H T) (hF : cF (t + 6) p I) (hw : wfp p 0) (hq : ∀ I1, sQ I I1 → I1 54 0 = nI (H 1) → (∀ i, i < H 1 → I1 56 i = nI (prP p H T i)) → (∀ i, i < H 1 → I1 57 i = oI (chN (canS (svP p H T)) (prP p H T) (H 1) i)) → Q none I1 J (pR t g)) : pM l X yX11_pairProxies mX11_pairProxies 4 [.ref 0] pK pK I J (pR t g) Q := by
  obtain ⟨fHFht0, fHFht1, fHFht2, fHFht3, fHFht4, fHFht5, fHFht6, fHFht7, fHFht8, fHFht9, fHFht10, fHFht11, fHFht12, fHFht13, fHFht14, fHFht15, fHFht16, fHFht17, fHFht18, fHFht19, fHFht20, fHFht21, fHFht22, fHFht23, fHFht24, fHFht25, fHFht26⟩ := HF t g ht
  have hn8 := hr.2.1
  refine pM_of rfl (fun h => by cases h) rfl pKM (Nat.le_of_ble_eq_true rfl) ?_
  refine pE_aload_n dX11_pairProxies_0 rfl rfl ?_
  refine pE_getR dX11_pairProxies_1 flX11_70 rfl (by first | assumption | rfl) (by first | assumption | rfl) ?_
  refine pE_aload_n dX11_pairProxies_4 rfl rfl ?_
  refine pE_getR dX11_pairProxies_5 flX11_29 rfl (by first | assumption | rfl) (by first | assumption | rfl) ?_
  refine pE_getI dX11_pairProxies_8 flX11_110 rfl (Or.inl rfl) (by first | assumption | rfl) ?_
  rw [hH.2.2.1]
  refine pE_callV (d' := 1) (as := [_]) dX11_pairProxies_11 lkX11_239 (cwX6_clear _ _) ivX6_clear ⟨_, rfl, rfl⟩ (by first | assumption | rfl) rfl rfl (Nat.le_of_ble_eq_true rfl) (by decide) pKK ?_
  refine M_X6_clear hn8 (fun I1 f1 h0 h1 => ?_)
  refine pE_iconst (v := nI 0) dX11_pairProxies_14 rfl ?_
  refine pE_istore_n (lc' := [_, some (.int _), _, _, _]) dX11_pairProxies_15 rfl (Nat.le_of_ble_eq_true rfl) rfl rfl ?_
  exact L_X11_pairProxies ht hH hr hS hrT hF hw hq (H 1 + 1) 0 _ _ _ I1 (by omega) (by omega) (fun c k a b => f1 c k (by omega)) ⟨h0, fun i hi => ⟨by rw [(h1 i (by omega)).1, if_neg (by omega)], by rw [(h1 i (by omega)).2.1, if_neg (by omega)]⟩⟩
set_option maxHeartbeats 400000 in
set_option maxRecDepth 100000 in
theorem M_X11_proxy {l : Launch} {X : pX} {t g : Nat} {I : pHI} {J : pHJ} {Q : pQ} {H T : pN} {p : pP} (ht : isH t) (hH : cH t H I) (hr : rH H) (hS : cS 33 T I) (hrT : rS 999 H T) (hF : cF (t + 6) p I) (hw : wfp p 0) (hq : ∀ I1, (∀ c k, ¬ scF c k → ¬ (54 ≤ c ∧ c ≤ 58) → c ≠ 45 → c ≠ 46 → I1 c k = I c k) → cL 45 1 46 I1 (H 1) (fun i => oI (chN (canS (svP p H T)) (prP p H T) (H 1) i)) → Q (some (.int (nI (btN (canS (svP p H T)) (prP p H T) (H 1) 0 0).1))) I1 J (pR t g)) : pM l X yX11_proxy mX11_proxy 5 [.ref 0] pK pK I J (pR t g) Q := by
  have hn8 := hr.2.1
  refine pM_of rfl (fun h => by cases h) rfl pKM (Nat.le_of_ble_eq_true rfl) ?_
  refine pE_aload_n dX11_proxy_0 rfl rfl ?_
  refine pE_callV (d' := 4) (as := []) dX11_proxy_1 lkX11_259 (cwX11_pairProxies _ _) ivX11_pairProxies ⟨_, rfl, rfl⟩ (by first | assumption | rfl) rfl rfl (Nat.le_of_ble_eq_true rfl) (by decide) pKK ?_
  refine M_X11_pairProxies ht hH hr hS hrT hF hw (fun I1 f1 h0 h1 h2 => ?_)
  refine pE_aload_n dX11_proxy_4 rfl rfl ?_
  refine pE_getR dX11_proxy_5 flX11_70 rfl (by first | assumption | rfl) (by first | assumption | rfl) ?_
  refine pE_aload_n dX11_proxy_8 rfl rfl ?_
  refine pE_getR dX11_proxy_9 flX11_56 rfl (by first | assumption | rfl) (by first | assumption | rfl) ?_
  refine pE_callV (d' := 1) (as := [_]) dX11_proxy_12 lkX11_251 (cwX6_layTo _ _) ivX6_layTo ⟨_, rfl, rfl⟩ (by first | assumption | rfl) rfl rfl (Nat.le_of_ble_eq_true rfl) (by decide) pKK ?_
  refine M_X6_layTo hn8 h0 h2 (fun I3 f3 h3 => ?_)
  refine pE_aload_n dX11_proxy_15 rfl rfl ?_
  refine pE_getR dX11_proxy_16 flX11_70 rfl (by first | assumption | rfl) (by first | assumption | rfl) ?_
  refine pE_callV (d' := 0) (as := []) dX11_proxy_19 lkX11_255 (cwX6_pairs _ _) ivX6_pairs ⟨_, rfl, rfl⟩ (by first | assumption | rfl) rfl rfl (Nat.le_of_ble_eq_true rfl) (by decide) pKK ?_
  refine M_X6_pairs (o := fun i => chN (canS (svP p H T)) (prP p H T) (H 1) i) hn8 ((f3 54 0 (by decide) (by decide)).trans h0) (fun i hi => (f3 57 i (by decide) (by decide)).trans (h2 i hi)) (fun i b _ e => oI_nb hn8 e) ?_
  refine pE_iret dX11_proxy_22 rfl rfl ?_
  rw [← (ch_all (C := canS (svP p H T)) (pr := prP p H T) (n := H 1)).1]
  exact hq _ (fun c k a b d e => (f3 c k d e).trans (f1 c k a b)) h3
set_option maxHeartbeats 400000 in
set_option maxRecDepth 100000 in
theorem M_X11_toil {l : Launch} {X : pX} {t g : Nat} {I : pHI} {J : pHJ} {Q : pQ} {H T : pN} {p : pP} (ht : isH t) (hH : cH t H I) (hr : rH H) (hS : cS 33 T I) (hrT : rS 999 H T) (hF : cF (t + 6) p I) (hw : wfp p 0) (hq : ∀ I1, sQ I I1 → Q (some (.int (nI (btN (canS (svP p H T)) (prP p H T) (H 1) 0 0).2))) I1 J (pR t g)) : pM l X yX11_toil mX11_toil 5 [.ref 0] pK pK I J (pR t g) Q := by
  have hn8 := hr.2.1
  refine pM_of rfl (fun h => by cases h) rfl pKM (Nat.le_of_ble_eq_true rfl) ?_
  refine pE_aload_n dX11_toil_0 rfl rfl ?_
  refine pE_callV (d' := 4) (as := []) dX11_toil_1 lkX11_259 (cwX11_pairProxies _ _) ivX11_pairProxies ⟨_, rfl, rfl⟩ (by first | assumption | rfl) rfl rfl (Nat.le_of_ble_eq_true rfl) (by decide) pKK ?_
  refine M_X11_pairProxies ht hH hr hS hrT hF hw (fun I1 f1 h0 h1 h2 => ?_)
  refine pE_aload_n dX11_toil_4 rfl rfl ?_
  refine pE_getR dX11_toil_5 flX11_70 rfl (by first | assumption | rfl) (by first | assumption | rfl) ?_
  refine pE_callV (d' := 0) (as := []) dX11_toil_8 lkX11_262 (cwX6_storeys _ _) ivX6_storeys ⟨_, rfl, rfl⟩ (by first | assumption | rfl) rfl rfl (Nat.le_of_ble_eq_true rfl) (by decide) pKK ?_
  refine M_X6_storeys (o := fun i => chN (canS (svP p H T)) (prP p H T) (H 1) i) (pr := prP p H T) hn8 h0 h2 (fun i b _ e => oI_nb hn8 e) h1 ?_
  refine pE_iret dX11_toil_11 rfl rfl ?_
  have h9 := hq _ f1
  rw [(ch_all (C := canS (svP p H T)) (pr := prP p H T) (n := H 1)).2] at h9
  exact h9
