set_option maxHeartbeats 400000 in
set_option maxRecDepth 100000 in
theorem L_X12_storeysFor {l : Launch} {X : pX} {t g : Nat} {I : pHI} {J : pHJ} {Q : pQ} {lk : Nat} {H T : pN} {p0 p : pP} (hH : mH H I) (hr : rH H) (hrT : rS 999 H T) (hS : mS 91 T I) (hF : mF 0 p0 I) (hw : p0 = [] ∨ wfp p0 0) (hp0 : fR 0 p0 p) (hlk : lk < 2 ^ 31) (hq : ∀ I1, sb I I1 → Q (some (.int (oI (sfN p H T lk)))) I1 J (pR t g)) : ∀ (fu : Nat) (j : Nat) (I1 : pHI), H 0 + 1 - j < fu → (j ≤ H 0 + 1) → (sb I I1) → (sfN p H T lk = fstN (sfP p T lk) (H 0 + 1) (H 0 + 1 - j)) → pE l X mX12_storeysFor 4 pK 2 [some (.ref 67), some (.int (nI lk)), some (.int (nI j))] [] pK I1 J (pR t g) Q := by
  intro fu
  induction fu with
  | zero => intro j I1 hn; exact absurd hn (Nat.not_lt_zero _)
  | succ fu ih =>
    intro j I1 hn hj hx he
    have hn20 := hr.1.2
    have hcl : cntN p T j 0 0 (T 24) ≤ 999 := clp_le _ _
    have hst : j < H 0 + 1 → _ := fst_step (P := sfP p T lk)
    refine pE_iload_n dX12_storeysFor_2 rfl rfl ?_
    refine pE_aload_n dX12_storeysFor_3 rfl rfl ?_
    refine pE_getI dX12_storeysFor_4 flX12_82 rfl (Or.inl rfl) (by first | assumption | rfl) ?_
    rw [(hH.sm hx.sm).1]
    refine pE_icmp_gt (tgt := 29) dX12_storeysFor_7 (by decide) (fun h7 => ?_) (fun h7 => ?_)
    · have g7 := nq_lt (by omega) (by omega) h7
      refine pE_iconst (v := -1) dX12_storeysFor_29 rfl ?_
      refine pE_iret dX12_storeysFor_30 rfl rfl ?_
      obtain rfl : j = H 0 + 1 := by omega
      have h9 := hq _ hx
      rw [he, Nat.sub_self] at h9
      exact h9
    · have g7 := nq_nlt (by omega) (by omega) h7
      refine pE_aload_n dX12_storeysFor_10 rfl rfl ?_
      refine pE_iload_n dX12_storeysFor_11 rfl rfl ?_
      refine pE_iconst (v := -1) dX12_storeysFor_12 rfl ?_
      refine pE_iconst (v := nI 0) dX12_storeysFor_13 rfl ?_
      refine pE_callV (d' := 3) (as := [_, _, _]) dX12_storeysFor_14 lkX12_404 (cwX12_countOf _ _) ivX12_countOf ⟨_, rfl, rfl⟩ (by first | assumption | rfl) rfl rfl (Nat.le_of_ble_eq_true rfl) (by decide) pKK ?_
      refine M_X12_countOf_0 (hF.sb hx) hw (hS.sb (Or.inr rfl) hx) (fun I2 hb2 => ?_)
      rw [fr_cnt hp0]
      refine pE_iload_n dX12_storeysFor_17 rfl rfl ?_
      refine pE_icmp_lt (tgt := 23) dX12_storeysFor_18 (by decide) (fun h18 => ?_) (fun h18 => ?_)
      · have g18 := nq_lt (by omega) (by omega) h18
        refine pE_iincN (c0 := 1) (lc' := [_, _, some (.int _)]) dX12_storeysFor_23 rfl rfl rfl rfl ?_
        refine pE_goto (tgt := 2) dX12_storeysFor_26 (by decide) ?_
        exact ih (j + 1) I2 (by omega) (by omega) (hx.tr hb2) (by rw [he, hst (by omega), if_neg (show ¬ sfP p T lk j = true from fun h => by have h := of_decide_eq_true h; omega)])
      · have g18 := nq_nlt (by omega) (by omega) h18
        refine pE_iload_n dX12_storeysFor_21 rfl rfl ?_
        refine pE_iret dX12_storeysFor_22 rfl rfl ?_
        have h9 := hq _ (hx.tr hb2)
        rw [he, hst (by omega), if_pos (show sfP p T lk j = true from decide_eq_true g18)] at h9
        exact h9
set_option maxHeartbeats 400000 in
set_option maxRecDepth 100000 in
theorem M_X12_storeysFor {l : Launch} {X : pX} {t g : Nat} {I : pHI} {J : pHJ} {Q : pQ} {lk : Nat} {H T : pN} {p0 p : pP} (hH : mH H I) (hr : rH H) (hrT : rS 999 H T) (hS : mS 91 T I) (hF : mF 0 p0 I) (hw : p0 = [] ∨ wfp p0 0) (hp0 : fR 0 p0 p) (hlk : lk < 2 ^ 31) (hq : ∀ I1, sb I I1 → Q (some (.int (oI (sfN p H T lk)))) I1 J (pR t g)) : pM l X yX12_storeysFor mX12_storeysFor 4 [.ref 67, .int (nI lk)] pK pK I J (pR t g) Q := by
  have hr1 := hr.1.1
  refine pM_of rfl (fun h => by cases h) rfl pKM (Nat.le_of_ble_eq_true rfl) ?_
  refine pE_iconst (v := nI 1) dX12_storeysFor_0 rfl ?_
  refine pE_istore_n (lc' := [_, _, some (.int _)]) dX12_storeysFor_1 rfl (Nat.le_of_ble_eq_true rfl) rfl rfl ?_
  exact L_X12_storeysFor hH hr hrT hS hF hw hp0 hlk hq (H 0 + 1) 1 I (by omega) (by omega) sb.rf (by rw [show H 0 + 1 - 1 = H 0 by omega]; rfl)
set_option maxHeartbeats 400000 in
set_option maxRecDepth 100000 in
theorem LI_X12_care {l : Launch} {X : pX} {t g : Nat} {I : pHI} {J : pHJ} {Q : pQ} {a : Nat} {H T : pN} (hH : mH H I) (hr : rH H) (hrT : rS 999 H T) (ha : a < H 1) (hq : ∀ I2, sz I I2 → mS 91 T I2 → mR I2 (H 1) (canS (svC H T)) (fun _ => 0) (a + 1) → pE l X mX12_care 2 pK 82 [some (.ref 67), some (.int (nI a)), some (.int (nI (H 1)))] [] pK I2 J (pR t g) Q) : ∀ (fu : Nat) (j : Nat) (I1 : pHI), H 1 - j < fu → (j ≤ H 1) → (sz I I1) → (mS 91 T I1) → (mRj I1 (H 1) (canS (svC H T)) (fun _ => 0) a j) → pE l X mX12_care 2 pK 23 [some (.ref 67), some (.int (nI a)), some (.int (nI j))] [] pK I1 J (pR t g) Q := by
  intro fu
  induction fu with
  | zero => intro j I1 hn; exact absurd hn (Nat.not_lt_zero _)
  | succ fu ih =>
    intro j I1 hn hj hx hT1 hv
    have hn8 := hr.2.1
    have hn20 := hr.1.2
    have hH1 := hH.sz hx
    have hon := (hr.2.2.2.2 a (by omega)).1
    have hcl := carN_le H T j a (H 0)
    have hcg := carN_ge H T j a (s := H (8 + a))
    refine pE_iload_n dX12_care_23 rfl rfl ?_
    refine pE_aload_n dX12_care_24 rfl rfl ?_
    refine pE_getI dX12_care_25 flX12_350 rfl (Or.inl rfl) (by first | assumption | rfl) ?_
    rw [hH1.2.1]
    refine pE_icmp_ge (tgt := 82) dX12_care_28 (by decide) (fun h28 => ?_) (fun h28 => ?_)
    · have g28 := nq_le (by omega) (by omega) h28
      obtain rfl : j = H 1 := by omega
      exact hq _ hx hT1 hv.done
    · have g28 := nq_nle (by omega) (by omega) h28
      refine pE_aload_n dX12_care_31 rfl rfl ?_
      refine pE_getR dX12_care_32 flX12_109 rfl (by first | assumption | rfl) (by first | assumption | rfl) ?_
      refine pE_bipush (v := nI 8) dX12_care_35 rfl ?_
      refine pE_iload_n dX12_care_37 rfl rfl ?_
      refine pE_imulN dX12_care_38 ?_
      refine pE_iload_n dX12_care_39 rfl rfl ?_
      refine pE_iaddN dX12_care_40 ?_
      refine pE_iload_n dX12_care_41 rfl rfl ?_
      refine pE_iload_n dX12_care_42 rfl rfl ?_
      refine pE_icmp_eq (tgt := 74) dX12_care_43 (by decide) (fun h43 => ?_) (fun h43 => ?_)
      · have g43 := nq_eq (by omega) (by omega) h43
        refine pE_iconst (v := nI 0) dX12_care_74 rfl ?_
        refine pE_zastoreN dX12_care_75 (by first | assumption | rfl) (by first | exact Or.inl nI_0 | exact Or.inr nI_1' | assumption) (by first | assumption | omega) (by omega) ?_
        refine pE_iincN (c0 := 1) (lc' := [_, _, some (.int _)]) dX12_care_76 rfl rfl rfl rfl ?_
        refine pE_goto (tgt := 23) dX12_care_79 (by decide) ?_
        refine ih (j + 1) _ (by omega) (by omega) (szp98 hx) (mSne hT1 (by decide)) (hv.put hn8 (by omega) ?_)
        first
        | (have gg : j = a := g43
           exact cC_no hn8 (by omega) (fun h => by omega))
        | (have gg : H (8 + a) = 0 := g52
           exact cC_no hn8 (by omega) (fun h => by omega))
        | (have gg : carN H T j a (H 0) < H (8 + a) := g67
           exact cC_no hn8 (by omega) (fun h => by have := (hcg (by omega) (H 0) hon).mpr h.2.2; omega))
        | exact cC_yes hn8 (by omega) ⟨g52, g43, (hcg (by omega) (H 0) hon).mp g67⟩
      · have g43 := nq_ne (by omega) (by omega) h43
        refine pE_aload_n dX12_care_46 rfl rfl ?_
        refine pE_getR dX12_care_47 flX12_67 rfl (by first | assumption | rfl) (by first | assumption | rfl) ?_
        refine pE_iload_n dX12_care_50 rfl rfl ?_
        refine pE_ialoadN dX12_care_51 (by first | assumption | rfl) (by first | assumption | omega) (by omega) ?_
        rw [(hH1.2.2.2 a ha).1]
        refine pE_if_le (tgt := 74) dX12_care_52 (by decide) (fun h52 => ?_) (fun h52 => ?_)
        · have g52 := nq_le0 (by omega) h52
          refine pE_iconst (v := nI 0) dX12_care_74 rfl ?_
          refine pE_zastoreN dX12_care_75 (by first | assumption | rfl) (by first | exact Or.inl nI_0 | exact Or.inr nI_1' | assumption) (by first | assumption | omega) (by omega) ?_
          refine pE_iincN (c0 := 1) (lc' := [_, _, some (.int _)]) dX12_care_76 rfl rfl rfl rfl ?_
          refine pE_goto (tgt := 23) dX12_care_79 (by decide) ?_
          refine ih (j + 1) _ (by omega) (by omega) (szp98 hx) (mSne hT1 (by decide)) (hv.put hn8 (by omega) ?_)
          first
          | (have gg : j = a := g43
             exact cC_no hn8 (by omega) (fun h => by omega))
          | (have gg : H (8 + a) = 0 := g52
             exact cC_no hn8 (by omega) (fun h => by omega))
          | (have gg : carN H T j a (H 0) < H (8 + a) := g67
             exact cC_no hn8 (by omega) (fun h => by have := (hcg (by omega) (H 0) hon).mpr h.2.2; omega))
          | exact cC_yes hn8 (by omega) ⟨g52, g43, (hcg (by omega) (H 0) hon).mp g67⟩
        · have g52 := nq_nle0 (by omega) h52
          refine pE_aload_n dX12_care_55 rfl rfl ?_
          refine pE_iload_n dX12_care_56 rfl rfl ?_
          refine pE_iload_n dX12_care_57 rfl rfl ?_
          refine pE_callV (d' := 1) (as := [_, _]) dX12_care_58 lkX12_430 (cwX12_carriesOf _ _) ivX12_carriesOf ⟨_, rfl, rfl⟩ (by first | assumption | rfl) rfl rfl (Nat.le_of_ble_eq_true rfl) (by decide) pKK ?_
          refine M_X12_carriesOf hH1 hr hrT hT1 (by omega) ha ?_
          refine pE_aload_n dX12_care_61 rfl rfl ?_
          refine pE_getR dX12_care_62 flX12_67 rfl (by first | assumption | rfl) (by first | assumption | rfl) ?_
          refine pE_iload_n dX12_care_65 rfl rfl ?_
          refine pE_ialoadN dX12_care_66 (by first | assumption | rfl) (by first | assumption | omega) (by omega) ?_
          rw [(hH1.2.2.2 a ha).1]
          refine pE_icmp_lt (tgt := 74) dX12_care_67 (by decide) (fun h67 => ?_) (fun h67 => ?_)
          · have g67 := nq_lt (by omega) (by omega) h67
            refine pE_iconst (v := nI 0) dX12_care_74 rfl ?_
            refine pE_zastoreN dX12_care_75 (by first | assumption | rfl) (by first | exact Or.inl nI_0 | exact Or.inr nI_1' | assumption) (by first | assumption | omega) (by omega) ?_
            refine pE_iincN (c0 := 1) (lc' := [_, _, some (.int _)]) dX12_care_76 rfl rfl rfl rfl ?_
            refine pE_goto (tgt := 23) dX12_care_79 (by decide) ?_
            refine ih (j + 1) _ (by omega) (by omega) (szp98 hx) (mSne hT1 (by decide)) (hv.put hn8 (by omega) ?_)
            first
            | (have gg : j = a := g43
               exact cC_no hn8 (by omega) (fun h => by omega))
            | (have gg : H (8 + a) = 0 := g52
               exact cC_no hn8 (by omega) (fun h => by omega))
            | (have gg : carN H T j a (H 0) < H (8 + a) := g67
               exact cC_no hn8 (by omega) (fun h => by have := (hcg (by omega) (H 0) hon).mpr h.2.2; omega))
            | exact cC_yes hn8 (by omega) ⟨g52, g43, (hcg (by omega) (H 0) hon).mp g67⟩
          · have g67 := nq_nlt (by omega) (by omega) h67
            refine pE_iconst (v := nI 1) dX12_care_70 rfl ?_
            refine pE_goto (tgt := 75) dX12_care_71 (by decide) ?_
            refine pE_zastoreN dX12_care_75 (by first | assumption | rfl) (by first | exact Or.inl nI_0 | exact Or.inr nI_1' | assumption) (by first | assumption | omega) (by omega) ?_
            refine pE_iincN (c0 := 1) (lc' := [_, _, some (.int _)]) dX12_care_76 rfl rfl rfl rfl ?_
            refine pE_goto (tgt := 23) dX12_care_79 (by decide) ?_
            refine ih (j + 1) _ (by omega) (by omega) (szp98 hx) (mSne hT1 (by decide)) (hv.put hn8 (by omega) ?_)
            first
            | (have gg : j = a := g43
               exact cC_no hn8 (by omega) (fun h => by omega))
            | (have gg : H (8 + a) = 0 := g52
               exact cC_no hn8 (by omega) (fun h => by omega))
            | (have gg : carN H T j a (H 0) < H (8 + a) := g67
               exact cC_no hn8 (by omega) (fun h => by have := (hcg (by omega) (H 0) hon).mpr h.2.2; omega))
            | exact cC_yes hn8 (by omega) ⟨g52, g43, (hcg (by omega) (H 0) hon).mp g67⟩
theorem sz67 {I I1 : pHI} {k : Nat} (h : sz I I1) : I1 67 k = I 67 k := h 67 k (by simp [scF]) (by simp [scM])
set_option maxHeartbeats 400000 in
set_option maxRecDepth 100000 in
theorem L_X12_care {l : Launch} {X : pX} {t g : Nat} {I : pHI} {J : pHJ} {Q : pQ} {H T : pN} (hH : mH H I) (hr : rH H) (hrT : rS 999 H T) (hq : ∀ I1, sY I I1 → cL 67 52 94 I1 (H 1) (fun i => oI (chN (canS (svC H T)) (fun _ => 0) (H 1) i)) → Q (some (.int (nI (btN (canS (svC H T)) (fun _ => 0) (H 1) 0 0).1))) I1 J (pR t g)) : ∀ (fu : Nat) (j : Nat) (v2 : Option Value) (I1 : pHI), H 1 - j < fu → (j ≤ H 1) → (sz I I1) → (mS 91 T I1) → (mR I1 (H 1) (canS (svC H T)) (fun _ => 0) j) → pE l X mX12_care 2 pK 6 [some (.ref 67), some (.int (nI j)), v2] [] pK I1 J (pR t g) Q := by
  intro fu
  induction fu with
  | zero => intro j v2 I1 hn; exact absurd hn (Nat.not_lt_zero _)
  | succ fu ih =>
    intro j v2 I1 hn hj hx hT1 hv
    have hn8 := hr.2.1
    have hH1 := hH.sz hx
    refine pE_iload_n dX12_care_6 rfl rfl ?_
    refine pE_aload_n dX12_care_7 rfl rfl ?_
    refine pE_getI dX12_care_8 flX12_350 rfl (Or.inl rfl) (by first | assumption | rfl) ?_
    rw [hH1.2.1]
    refine pE_icmp_ge (tgt := 88) dX12_care_11 (by decide) (fun h11 => ?_) (fun h11 => ?_)
    · have g11 := nq_le (by omega) (by omega) h11
      obtain rfl : j = H 1 := by omega
      refine pE_aload_n dX12_care_88 rfl rfl ?_
      refine pE_callV (d' := 1) (as := []) dX12_care_89 lkX12_436 (cwX12_layDoers _ _) ivX12_layDoers ⟨_, rfl, rfl⟩ (by first | assumption | rfl) rfl rfl (Nat.le_of_ble_eq_true rfl) (by decide) pKK ?_
      refine M_X12_layDoers ((sz67 hx).trans hH.2.1) hn8 (fun t ht => ((rP_C (T := T) hn8).2 t ht).2) hv.all (fun I2 f2 h2 => ?_)
      refine pE_aload_n dX12_care_92 rfl rfl ?_
      refine pE_callV (d' := 0) (as := []) dX12_care_93 lkX12_439 (cwX12_putDoers _ _) ivX12_putDoers ⟨_, rfl, rfl⟩ (by first | assumption | rfl) rfl rfl (Nat.le_of_ble_eq_true rfl) (by decide) pKK ?_
      refine M_X12_putDoers ((f2 67 42 (by decide) (by decide)).trans ((sz67 hx).trans hH.2.1)) hn8 (fun t ht => ((rP_C (T := T) hn8).2 t ht).2) (hv.all.sD f2) h2 (fun I3 f3 h3 => ?_)
      refine pE_aload_n dX12_care_96 rfl rfl ?_
      refine pE_getR dX12_care_97 flX12_100 rfl (by first | assumption | rfl) (by first | assumption | rfl) ?_
      refine pE_iconst (v := nI 0) dX12_care_100 rfl ?_
      refine pE_ialoadN dX12_care_101 (by first | assumption | rfl) (by first | assumption | omega) (by omega) ?_
      rw [show I3 95 0 = nI (btN (canS (svC H T)) (fun _ => 0) (H 1) 0 0).1 from ((f3 95 0 (by decide) (by omega)).trans (h2 0 (Nat.zero_le _) 0 (by omega)).1)]
      refine pE_iret dX12_care_102 rfl rfl ?_
      exact hq _ (fun c k a b d e => (f3 c k d e).trans ((f2.sz c k a b).trans (hx c k a b))) h3
    · have g11 := nq_nle (by omega) (by omega) h11
      refine pE_aload_n dX12_care_14 rfl rfl ?_
      refine pE_getR dX12_care_15 flX12_106 rfl (by first | assumption | rfl) (by first | assumption | rfl) ?_
      refine pE_iload_n dX12_care_18 rfl rfl ?_
      refine pE_iconst (v := nI 0) dX12_care_19 rfl ?_
      refine pE_iastoreN dX12_care_20 (by first | assumption | rfl) (by first | assumption | omega) (by omega) ?_
      refine pE_iconst (v := nI 0) dX12_care_21 rfl ?_
      refine pE_istore_n (lc' := [_, _, some (.int _)]) dX12_care_22 rfl (Nat.le_of_ble_eq_true rfl) rfl rfl ?_
      refine LI_X12_care (I := pu I1 97 j (nI 0)) (hH.sz (szp97 hx)) hr hrT (by omega) (fun I2 hx2 hT2 hv2 => ?_) (H 1 + 1) 0 _ (by omega) (by omega) sz.rf (mSne hT1 (by decide)) (hv.start rfl)
      refine pE_iincN (c0 := 1) (lc' := [_, some (.int _), _]) dX12_care_82 rfl rfl rfl rfl ?_
      refine pE_goto (tgt := 6) dX12_care_85 (by decide) ?_
      exact ih (j + 1) _ I2 (by omega) (by omega) ((szp97 hx).tr hx2) hT2 hv2
set_option maxHeartbeats 400000 in
set_option maxRecDepth 100000 in
theorem M_X12_care {l : Launch} {X : pX} {t g : Nat} {I : pHI} {J : pHJ} {Q : pQ} {H T : pN} (hH : mH H I) (hr : rH H) (hrT : rS 999 H T) (hS : mS 90 T I) (hq : ∀ I1, sY I I1 → cL 67 52 94 I1 (H 1) (fun i => oI (chN (canS (svC H T)) (fun _ => 0) (H 1) i)) → Q (some (.int (nI (btN (canS (svC H T)) (fun _ => 0) (H 1) 0 0).1))) I1 J (pR t g)) : pM l X yX12_care mX12_care 2 [.ref 67] pK pK I J (pR t g) Q := by
  refine pM_of rfl (fun h => by cases h) rfl pKM (Nat.le_of_ble_eq_true rfl) ?_
  refine pE_aload_n dX12_care_0 rfl rfl ?_
  refine pE_callV (d' := 0) (as := []) dX12_care_1 lkX12_394 (cwX12_load _ _) ivX12_load ⟨_, rfl, rfl⟩ (by first | assumption | rfl) rfl rfl (Nat.le_of_ble_eq_true rfl) (by decide) pKK ?_
  refine M_X12_load ?_
  refine pE_iconst (v := nI 0) dX12_care_4 rfl ?_
  refine pE_istore_n (lc' := [_, some (.int _), _]) dX12_care_5 rfl (Nat.le_of_ble_eq_true rfl) rfl rfl ?_
  exact L_X12_care (I := pz I 91 (fun q => if q < 28 then I 90 q else I 91 q)) (hH.sm sm.load) hr hrT (fun I1 f h => hq I1 (fun c k a b d e => (f c k a b d e).trans (sm.load.sz c k a b)) h) (H 1 + 1) 0 _ _ (by omega) (by omega) sz.rf hS.load (fun i hi => by omega)
set_option maxHeartbeats 400000 in
set_option maxRecDepth 100000 in
theorem LI_X12_layProxy_none {l : Launch} {X : pX} {t g : Nat} {I : pHI} {J : pHJ} {Q : pQ} {a : Nat} {H T : pN} {p : pP} (hH : mH H I) (hr : rH H) (hrT : rS 999 H T) (ha : a < H 1) (e : pxO p H T a = none) (hq : ∀ I2, sz I I2 → mS 91 T I2 → mR I2 (H 1) (canS (svP p H T)) (prP p H T) (a + 1) → pE l X mX12_layProxy 5 pK 102 [some (.ref 67), some (.int (nI a)), some (.int (-1)), some (.int (nI (H 1)))] [] pK I2 J (pR t g) Q) : ∀ (fu : Nat) (j : Nat) (I1 : pHI), H 1 - j < fu → (j ≤ H 1) → (sz I I1) → (mS 91 T I1) → (mRj I1 (H 1) (canS (svP p H T)) (prP p H T) a j) → pE l X mX12_layProxy 5 pK 53 [some (.ref 67), some (.int (nI a)), some (.int (-1)), some (.int (nI j))] [] pK I1 J (pR t g) Q := by
  intro fu
  induction fu with
  | zero => intro j I1 hn; exact absurd hn (Nat.not_lt_zero _)
  | succ fu ih =>
    intro j I1 hn hj hx hT1 hv
    have hn8 := hr.2.1
    have hn20 := hr.1.2
    have hH1 := hH.sz hx
    have hT40 : j < 8 → T j ≤ 40 := fun h => (hrT.2.2.2.2 j h).1
    refine pE_iload_n dX12_layProxy_53 rfl rfl ?_
    refine pE_aload_n dX12_layProxy_54 rfl rfl ?_
    refine pE_getI dX12_layProxy_55 flX12_350 rfl (Or.inl rfl) (by first | assumption | rfl) ?_
    rw [hH1.2.1]
    refine pE_icmp_ge (tgt := 102) dX12_layProxy_58 (by decide) (fun h58 => ?_) (fun h58 => ?_)
    · have g58 := nq_le (by omega) (by omega) h58
      obtain rfl : j = H 1 := by omega
      exact hq _ hx hT1 hv.done
    · have g58 := nq_nle (by omega) (by omega) h58
      refine pE_aload_n dX12_layProxy_61 rfl rfl ?_
      refine pE_getR dX12_layProxy_62 flX12_109 rfl (by first | assumption | rfl) (by first | assumption | rfl) ?_
      refine pE_bipush (v := nI 8) dX12_layProxy_65 rfl ?_
      refine pE_iload_n dX12_layProxy_67 rfl rfl ?_
      refine pE_imulN dX12_layProxy_68 ?_
      refine pE_iload_n dX12_layProxy_69 rfl rfl ?_
      refine pE_iaddN dX12_layProxy_70 ?_
      refine pE_iload_n dX12_layProxy_71 rfl rfl ?_
      refine pE_iload_n dX12_layProxy_72 rfl rfl ?_
      refine pE_icmp_eq (tgt := 94) dX12_layProxy_73 (by decide) (fun h73 => ?_) (fun h73 => ?_)
      · have g73 := nq_eq (by omega) (by omega) h73
        refine pE_iconst (v := nI 0) dX12_layProxy_94 rfl ?_
        refine pE_zastoreN dX12_layProxy_95 (by first | assumption | rfl) (by first | exact Or.inl nI_0 | exact Or.inr nI_1' | assumption) (by first | assumption | omega) (by omega) ?_
        refine pE_iincN (c0 := 1) (lc' := [_, _, _, some (.int _)]) dX12_layProxy_96 rfl rfl rfl rfl ?_
        refine pE_goto (tgt := 53) dX12_layProxy_99 (by decide) ?_
        refine ih (j + 1) _ (by omega) (by omega) (szp98 hx) (mSne hT1 (by decide)) (hv.put hn8 (by omega) ?_)
        exact b_no ((can_P hn8 (by omega)).2 e)
      · have g73 := nq_ne (by omega) (by omega) h73
        refine pE_iload_n dX12_layProxy_76 rfl rfl ?_
        refine pE_if_lt (tgt := 94) dX12_layProxy_77 (by decide) (fun h77 => ?_) (fun h77 => ?_)
        · refine pE_iconst (v := nI 0) dX12_layProxy_94 rfl ?_
          refine pE_zastoreN dX12_layProxy_95 (by first | assumption | rfl) (by first | exact Or.inl nI_0 | exact Or.inr nI_1' | assumption) (by first | assumption | omega) (by omega) ?_
          refine pE_iincN (c0 := 1) (lc' := [_, _, _, some (.int _)]) dX12_layProxy_96 rfl rfl rfl rfl ?_
          refine pE_goto (tgt := 53) dX12_layProxy_99 (by decide) ?_
          refine ih (j + 1) _ (by omega) (by omega) (szp98 hx) (mSne hT1 (by decide)) (hv.put hn8 (by omega) ?_)
          exact b_no ((can_P hn8 (by omega)).2 e)
        · exact absurd m1_lt0 h77
set_option maxHeartbeats 400000 in
set_option maxRecDepth 100000 in
theorem LI_X12_layProxy_some {l : Launch} {X : pX} {t g : Nat} {I : pHI} {J : pHJ} {Q : pQ} {a s : Nat} {H T : pN} {p : pP} (hH : mH H I) (hr : rH H) (hrT : rS 999 H T) (ha : a < H 1) (e : pxO p H T a = some s) (hq : ∀ I2, sz I I2 → mS 91 T I2 → mR I2 (H 1) (canS (svP p H T)) (prP p H T) (a + 1) → pE l X mX12_layProxy 5 pK 102 [some (.ref 67), some (.int (nI a)), some (.int (nI s)), some (.int (nI (H 1)))] [] pK I2 J (pR t g) Q) : ∀ (fu : Nat) (j : Nat) (I1 : pHI), H 1 - j < fu → (j ≤ H 1) → (sz I I1) → (mS 91 T I1) → (mRj I1 (H 1) (canS (svP p H T)) (prP p H T) a j) → pE l X mX12_layProxy 5 pK 53 [some (.ref 67), some (.int (nI a)), some (.int (nI s)), some (.int (nI j))] [] pK I1 J (pR t g) Q := by
  intro fu
  induction fu with
  | zero => intro j I1 hn; exact absurd hn (Nat.not_lt_zero _)
  | succ fu ih =>
    intro j I1 hn hj hx hT1 hv
    have hn8 := hr.2.1
    have hn20 := hr.1.2
    have hH1 := hH.sz hx
    have hT40 : j < 8 → T j ≤ 40 := fun h => (hrT.2.2.2.2 j h).1
    have hs := px_some e
    refine pE_iload_n dX12_layProxy_53 rfl rfl ?_
    refine pE_aload_n dX12_layProxy_54 rfl rfl ?_
    refine pE_getI dX12_layProxy_55 flX12_350 rfl (Or.inl rfl) (by first | assumption | rfl) ?_
    rw [hH1.2.1]
    refine pE_icmp_ge (tgt := 102) dX12_layProxy_58 (by decide) (fun h58 => ?_) (fun h58 => ?_)
    · have g58 := nq_le (by omega) (by omega) h58
      obtain rfl : j = H 1 := by omega
      exact hq _ hx hT1 hv.done
    · have g58 := nq_nle (by omega) (by omega) h58
      refine pE_aload_n dX12_layProxy_61 rfl rfl ?_
      refine pE_getR dX12_layProxy_62 flX12_109 rfl (by first | assumption | rfl) (by first | assumption | rfl) ?_
      refine pE_bipush (v := nI 8) dX12_layProxy_65 rfl ?_
      refine pE_iload_n dX12_layProxy_67 rfl rfl ?_
      refine pE_imulN dX12_layProxy_68 ?_
      refine pE_iload_n dX12_layProxy_69 rfl rfl ?_
      refine pE_iaddN dX12_layProxy_70 ?_
      refine pE_iload_n dX12_layProxy_71 rfl rfl ?_
      refine pE_iload_n dX12_layProxy_72 rfl rfl ?_
      refine pE_icmp_eq (tgt := 94) dX12_layProxy_73 (by decide) (fun h73 => ?_) (fun h73 => ?_)
      · have g73 := nq_eq (by omega) (by omega) h73
        refine pE_iconst (v := nI 0) dX12_layProxy_94 rfl ?_
        refine pE_zastoreN dX12_layProxy_95 (by first | assumption | rfl) (by first | exact Or.inl nI_0 | exact Or.inr nI_1' | assumption) (by first | assumption | omega) (by omega) ?_
        refine pE_iincN (c0 := 1) (lc' := [_, _, _, some (.int _)]) dX12_layProxy_96 rfl rfl rfl rfl ?_
        refine pE_goto (tgt := 53) dX12_layProxy_99 (by decide) ?_
        refine ih (j + 1) _ (by omega) (by omega) (szp98 hx) (mSne hT1 (by decide)) (hv.put hn8 (by omega) ?_)
        have hcp := (can_P (p := p) (H := H) (T := T) (a := a) hn8 (show j < H 1 by omega)).1 s e
        first
        | exact b_no (fun h => by have := hcp.mp h; omega)
        | exact b_yes (hcp.mpr ⟨g73, g87⟩)
      · have g73 := nq_ne (by omega) (by omega) h73
        refine pE_iload_n dX12_layProxy_76 rfl rfl ?_
        refine pE_if_lt (tgt := 94) dX12_layProxy_77 (by decide) (fun h77 => ?_) (fun h77 => ?_)
        · exact absurd h77 (nI_pos (by omega))
        · have hT4 := hT40 (by omega)
          refine pE_aload_n dX12_layProxy_80 rfl rfl ?_
          refine pE_getR dX12_layProxy_81 flX12_88 rfl (by first | assumption | rfl) (by first | assumption | rfl) ?_
          refine pE_iload_n dX12_layProxy_84 rfl rfl ?_
          refine pE_ialoadN dX12_layProxy_85 (by first | assumption | rfl) (by first | assumption | omega) (by omega) ?_
          rw [hT1 j (by omega)]
          refine pE_iload_n dX12_layProxy_86 rfl rfl ?_
          refine pE_icmp_lt (tgt := 94) dX12_layProxy_87 (by decide) (fun h87 => ?_) (fun h87 => ?_)
          · have g87 := nq_lt (by omega) (by omega) h87
            refine pE_iconst (v := nI 0) dX12_layProxy_94 rfl ?_
            refine pE_zastoreN dX12_layProxy_95 (by first | assumption | rfl) (by first | exact Or.inl nI_0 | exact Or.inr nI_1' | assumption) (by first | assumption | omega) (by omega) ?_
            refine pE_iincN (c0 := 1) (lc' := [_, _, _, some (.int _)]) dX12_layProxy_96 rfl rfl rfl rfl ?_
            refine pE_goto (tgt := 53) dX12_layProxy_99 (by decide) ?_
            refine ih (j + 1) _ (by omega) (by omega) (szp98 hx) (mSne hT1 (by decide)) (hv.put hn8 (by omega) ?_)
            have hcp := (can_P (p := p) (H := H) (T := T) (a := a) hn8 (show j < H 1 by omega)).1 s e
            first
            | exact b_no (fun h => by have := hcp.mp h; omega)
            | exact b_yes (hcp.mpr ⟨g73, g87⟩)
          · have g87 := nq_nlt (by omega) (by omega) h87
            refine pE_iconst (v := nI 1) dX12_layProxy_90 rfl ?_
            refine pE_goto (tgt := 95) dX12_layProxy_91 (by decide) ?_
            refine pE_zastoreN dX12_layProxy_95 (by first | assumption | rfl) (by first | exact Or.inl nI_0 | exact Or.inr nI_1' | assumption) (by first | assumption | omega) (by omega) ?_
            refine pE_iincN (c0 := 1) (lc' := [_, _, _, some (.int _)]) dX12_layProxy_96 rfl rfl rfl rfl ?_
            refine pE_goto (tgt := 53) dX12_layProxy_99 (by decide) ?_
            refine ih (j + 1) _ (by omega) (by omega) (szp98 hx) (mSne hT1 (by decide)) (hv.put hn8 (by omega) ?_)
            have hcp := (can_P (p := p) (H := H) (T := T) (a := a) hn8 (show j < H 1 by omega)).1 s e
            first
            | exact b_no (fun h => by have := hcp.mp h; omega)
            | exact b_yes (hcp.mpr ⟨g73, g87⟩)
set_option maxHeartbeats 400000 in
set_option maxRecDepth 100000 in
theorem L_X12_layProxy {l : Launch} {X : pX} {t g : Nat} {I : pHI} {J : pHJ} {Q : pQ} {H T : pN} {p0 p : pP} (hH : mH H I) (hr : rH H) (hrT : rS 999 H T) (hF : mF 0 p0 I) (hw : p0 = [] ∨ wfp p0 0) (hp0 : fR 0 p0 p) (hq : ∀ I2, sz I I2 → mC I2 (H 1) (canS (svP p H T)) (prP p H T) → mT I2 (H 1) (canS (svP p H T)) (prP p H T) 0 → (∀ a, a ≤ H 1 → mT I2 (H 1) (canS (svP p H T)) (prP p H T) a) → Q none I2 J (pR t g)) : ∀ (fu : Nat) (j : Nat) (v2 : Option Value) (v3 : Option Value) (I1 : pHI), H 1 - j < fu → (j ≤ H 1) → (sz I I1) → (mS 91 T I1) → (mR I1 (H 1) (canS (svP p H T)) (prP p H T) j) → pE l X mX12_layProxy 5 pK 6 [some (.ref 67), some (.int (nI j)), v2, v3] [] pK I1 J (pR t g) Q := by
  intro fu
  induction fu with
  | zero => intro j v2 v3 I1 hn; exact absurd hn (Nat.not_lt_zero _)
  | succ fu ih =>
    intro j v2 v3 I1 hn hj hx hT1 hv
    have hn8 := hr.2.1
    have hH1 := hH.sz hx
    refine pE_iload_n dX12_layProxy_6 rfl rfl ?_
    refine pE_aload_n dX12_layProxy_7 rfl rfl ?_
    refine pE_getI dX12_layProxy_8 flX12_350 rfl (Or.inl rfl) (by first | assumption | rfl) ?_
    rw [hH1.2.1]
    refine pE_icmp_ge (tgt := 108) dX12_layProxy_11 (by decide) (fun h11 => ?_) (fun h11 => ?_)
    · have g11 := nq_le (by omega) (by omega) h11
      obtain rfl : j = H 1 := by omega
      refine pE_aload_n dX12_layProxy_108 rfl rfl ?_
      refine pE_callV (d' := 1) (as := []) dX12_layProxy_109 lkX12_436 (cwX12_layDoers _ _) ivX12_layDoers ⟨_, rfl, rfl⟩ (by first | assumption | rfl) rfl rfl (Nat.le_of_ble_eq_true rfl) (by decide) pKK ?_
      refine M_X12_layDoers ((sz67 hx).trans hH.2.1) hn8 (fun t ht => ((rP_P (p := p) (T := T) hr).2 t ht).2) hv.all (fun I2 f2 h2 => ?_)
      refine pE_vret dX12_layProxy_112 rfl rfl ?_
      exact hq _ (hx.tr f2.sz) (hv.all.sD f2) (h2 0 (Nat.zero_le _)) h2
    · have g11 := nq_nle (by omega) (by omega) h11
      have hlb := lack_leB hr hrT (show j < 8 by omega)
      refine pE_aload_n dX12_layProxy_14 rfl rfl ?_
      refine pE_iload_n dX12_layProxy_15 rfl rfl ?_
      refine pE_callV (d' := 1) (as := [_]) dX12_layProxy_16 lkX12_397 (cwX12_lackOf _ _) ivX12_lackOf ⟨_, rfl, rfl⟩ (by first | assumption | rfl) rfl rfl (Nat.le_of_ble_eq_true rfl) (by decide) pKK ?_
      refine M_X12_lackOf (H := H) (T := T) (hH1.2.2.2 j (by omega)).2.2.2.1 (hT1 (16 + j) (by omega)) (hT1 (8 + j) (by omega)) (by omega) hlb.1 hlb.2.1 hlb.2.2.1 ?_
      refine pE_if_le (tgt := 34) dX12_layProxy_19 (by decide) (fun h19 => ?_) (fun h19 => ?_)
      · have g19 := nq_le0 (by omega) h19
        refine pE_iconst (v := -1) dX12_layProxy_34 rfl ?_
        have epx : pxO p H T j = none := by unfold pxO; rw [if_neg (by omega)]
        refine pE_istore_n (lc' := [_, _, some (.int _), _]) dX12_layProxy_35 rfl (Nat.le_of_ble_eq_true rfl) rfl rfl ?_
        refine pE_aload_n dX12_layProxy_36 rfl rfl ?_
        refine pE_getR dX12_layProxy_37 flX12_106 rfl (by first | assumption | rfl) (by first | assumption | rfl) ?_
        refine pE_iload_n dX12_layProxy_40 rfl rfl ?_
        refine pE_iload_n dX12_layProxy_41 rfl rfl ?_
        refine pE_if_ge (tgt := 49) dX12_layProxy_42 (by decide) (fun h42 => ?_) (fun h42 => ?_)
        · exact absurd h42 (by decide)
        · refine pE_iconst (v := nI 0) dX12_layProxy_45 rfl ?_
          refine pE_goto (tgt := 50) dX12_layProxy_46 (by decide) ?_
          refine pE_iastoreN dX12_layProxy_50 (by first | assumption | rfl) (by first | assumption | omega) (by omega) ?_
          refine pE_iconst (v := nI 0) dX12_layProxy_51 rfl ?_
          refine pE_istore_n (lc' := [_, _, _, some (.int _)]) dX12_layProxy_52 rfl (Nat.le_of_ble_eq_true rfl) rfl rfl ?_
          refine LI_X12_layProxy_none (I := pu I1 97 j (nI 0)) (hH.sz (szp97 hx)) hr hrT (by omega) epx (fun I9 hx9 hT9 hv9 => ?_) (H 1 + 1) 0 _ (by omega) (by omega) sz.rf (mSne hT1 (by decide)) (hv.start (show nI 0 = nI (prP p H T j) by unfold prP; rw [epx]))
          refine pE_iincN (c0 := 1) (lc' := [_, some (.int _), _, _]) dX12_layProxy_102 rfl rfl rfl rfl ?_
          refine pE_goto (tgt := 6) dX12_layProxy_105 (by decide) ?_
          exact ih (j + 1) _ _ I9 (by omega) (by omega) ((szp97 hx).tr hx9) hT9 hv9
      · have g19 := nq_nle0 (by omega) h19
        refine pE_aload_n dX12_layProxy_22 rfl rfl ?_
        refine pE_aload_n dX12_layProxy_23 rfl rfl ?_
        refine pE_iload_n dX12_layProxy_24 rfl rfl ?_
        refine pE_callV (d' := 1) (as := [_]) dX12_layProxy_25 lkX12_397 (cwX12_lackOf _ _) ivX12_lackOf ⟨_, rfl, rfl⟩ (by first | assumption | rfl) rfl rfl (Nat.le_of_ble_eq_true rfl) (by decide) pKK ?_
        refine M_X12_lackOf (H := H) (T := T) (hH1.2.2.2 j (by omega)).2.2.2.1 (hT1 (16 + j) (by omega)) (hT1 (8 + j) (by omega)) (by omega) hlb.1 hlb.2.1 hlb.2.2.1 ?_
        refine pE_callV (d' := 4) (as := [_]) dX12_layProxy_28 lkX12_442 (cwX12_storeysFor _ _) ivX12_storeysFor ⟨_, rfl, rfl⟩ (by first | assumption | rfl) rfl rfl (Nat.le_of_ble_eq_true rfl) (by decide) pKK ?_
        refine M_X12_storeysFor hH1 hr hrT hT1 (hF.sz hx) hw hp0 (by omega) (fun I2 hb2 => ?_)
        refine pE_goto (tgt := 35) dX12_layProxy_31 (by decide) ?_
        have hx2 := hx.tr hb2.sm.sz
        have hT2 := hT1.sb (Or.inr rfl) hb2
        have hv2 := hv.sb hb2
        have epx : pxO p H T j = sfN p H T (lackN H T j) := by unfold pxO; rw [if_pos (by omega)]
        cases e : sfN p H T (lackN H T j) with
        | none =>
          rw [show oI none = (-1 : Int32) from rfl]
          rw [e] at epx
          refine pE_istore_n (lc' := [_, _, some (.int _), _]) dX12_layProxy_35 rfl (Nat.le_of_ble_eq_true rfl) rfl rfl ?_
          refine pE_aload_n dX12_layProxy_36 rfl rfl ?_
          refine pE_getR dX12_layProxy_37 flX12_106 rfl (by first | assumption | rfl) (by first | assumption | rfl) ?_
          refine pE_iload_n dX12_layProxy_40 rfl rfl ?_
          refine pE_iload_n dX12_layProxy_41 rfl rfl ?_
          refine pE_if_ge (tgt := 49) dX12_layProxy_42 (by decide) (fun h42 => ?_) (fun h42 => ?_)
          · exact absurd h42 (by decide)
          · refine pE_iconst (v := nI 0) dX12_layProxy_45 rfl ?_
            refine pE_goto (tgt := 50) dX12_layProxy_46 (by decide) ?_
            refine pE_iastoreN dX12_layProxy_50 (by first | assumption | rfl) (by first | assumption | omega) (by omega) ?_
            refine pE_iconst (v := nI 0) dX12_layProxy_51 rfl ?_
            refine pE_istore_n (lc' := [_, _, _, some (.int _)]) dX12_layProxy_52 rfl (Nat.le_of_ble_eq_true rfl) rfl rfl ?_
            refine LI_X12_layProxy_none (I := pu I2 97 j (nI 0)) (hH.sz (szp97 hx2)) hr hrT (by omega) epx (fun I9 hx9 hT9 hv9 => ?_) (H 1 + 1) 0 _ (by omega) (by omega) sz.rf (mSne hT2 (by decide)) (hv2.start (show nI 0 = nI (prP p H T j) by unfold prP; rw [epx]))
            refine pE_iincN (c0 := 1) (lc' := [_, some (.int _), _, _]) dX12_layProxy_102 rfl rfl rfl rfl ?_
            refine pE_goto (tgt := 6) dX12_layProxy_105 (by decide) ?_
            exact ih (j + 1) _ _ I9 (by omega) (by omega) ((szp97 hx2).tr hx9) hT9 hv9
        | some s =>
          rw [show oI (some s) = nI s from rfl]
          rw [e] at epx
          have hs0 := sf_some e
          have hn20 := hr.1.2
          refine pE_istore_n (lc' := [_, _, some (.int _), _]) dX12_layProxy_35 rfl (Nat.le_of_ble_eq_true rfl) rfl rfl ?_
          refine pE_aload_n dX12_layProxy_36 rfl rfl ?_
          refine pE_getR dX12_layProxy_37 flX12_106 rfl (by first | assumption | rfl) (by first | assumption | rfl) ?_
          refine pE_iload_n dX12_layProxy_40 rfl rfl ?_
          refine pE_iload_n dX12_layProxy_41 rfl rfl ?_
          refine pE_if_ge (tgt := 49) dX12_layProxy_42 (by decide) (fun h42 => ?_) (fun h42 => ?_)
          · refine pE_iload_n dX12_layProxy_49 rfl rfl ?_
            refine pE_iastoreN dX12_layProxy_50 (by first | assumption | rfl) (by first | assumption | omega) (by omega) ?_
            refine pE_iconst (v := nI 0) dX12_layProxy_51 rfl ?_
            refine pE_istore_n (lc' := [_, _, _, some (.int _)]) dX12_layProxy_52 rfl (Nat.le_of_ble_eq_true rfl) rfl rfl ?_
            refine LI_X12_layProxy_some (I := pu I2 97 j (nI s)) (hH.sz (szp97 hx2)) hr hrT (by omega) epx (fun I9 hx9 hT9 hv9 => ?_) (H 1 + 1) 0 _ (by omega) (by omega) sz.rf (mSne hT2 (by decide)) (hv2.start (show nI s = nI (prP p H T j) by unfold prP; rw [epx]))
            refine pE_iincN (c0 := 1) (lc' := [_, some (.int _), _, _]) dX12_layProxy_102 rfl rfl rfl rfl ?_
            refine pE_goto (tgt := 6) dX12_layProxy_105 (by decide) ?_
            exact ih (j + 1) _ _ I9 (by omega) (by omega) ((szp97 hx2).tr hx9) hT9 hv9
          · exact absurd h42 (not_not_intro (nI_pos' (by omega)))
set_option maxHeartbeats 400000 in
set_option maxRecDepth 100000 in
theorem M_X12_layProxy {l : Launch} {X : pX} {t g : Nat} {I : pHI} {J : pHJ} {Q : pQ} {H T : pN} {p0 p : pP} (hH : mH H I) (hr : rH H) (hrT : rS 999 H T) (hS : mS 90 T I) (hF : mF 0 p0 I) (hw : p0 = [] ∨ wfp p0 0) (hp0 : fR 0 p0 p) (hq : ∀ I2, sz I I2 → mC I2 (H 1) (canS (svP p H T)) (prP p H T) → mT I2 (H 1) (canS (svP p H T)) (prP p H T) 0 → (∀ a, a ≤ H 1 → mT I2 (H 1) (canS (svP p H T)) (prP p H T) a) → Q none I2 J (pR t g)) : pM l X yX12_layProxy mX12_layProxy 5 [.ref 67] pK pK I J (pR t g) Q := by
  refine pM_of rfl (fun h => by cases h) rfl pKM (Nat.le_of_ble_eq_true rfl) ?_
  refine pE_aload_n dX12_layProxy_0 rfl rfl ?_
  refine pE_callV (d' := 0) (as := []) dX12_layProxy_1 lkX12_394 (cwX12_load _ _) ivX12_load ⟨_, rfl, rfl⟩ (by first | assumption | rfl) rfl rfl (Nat.le_of_ble_eq_true rfl) (by decide) pKK ?_
  refine M_X12_load ?_
  refine pE_iconst (v := nI 0) dX12_layProxy_4 rfl ?_
  refine pE_istore_n (lc' := [_, some (.int _), _, _]) dX12_layProxy_5 rfl (Nat.le_of_ble_eq_true rfl) rfl rfl ?_
  exact L_X12_layProxy (I := pz I 91 (fun q => if q < 28 then I 90 q else I 91 q)) (hH.sm sm.load) hr hrT (hF.sm sm.load) hw hp0 (fun I1 f => hq I1 (sm.load.sz.tr f)) (H 1 + 1) 0 _ _ _ (by omega) (by omega) sz.rf hS.load (fun i hi => by omega)
set_option maxHeartbeats 400000 in
set_option maxRecDepth 100000 in
theorem M_X12_proxy {l : Launch} {X : pX} {t g : Nat} {I : pHI} {J : pHJ} {Q : pQ} {H T : pN} {p0 p : pP} (hH : mH H I) (hr : rH H) (hrT : rS 999 H T) (hS : mS 90 T I) (hF : mF 0 p0 I) (hw : p0 = [] ∨ wfp p0 0) (hp0 : fR 0 p0 p) (hq : ∀ I1, sY I I1 → cL 67 52 94 I1 (H 1) (fun i => oI (chN (canS (svP p H T)) (prP p H T) (H 1) i)) → Q (some (.int (nI (btN (canS (svP p H T)) (prP p H T) (H 1) 0 0).1))) I1 J (pR t g)) : pM l X yX12_proxy mX12_proxy 6 [.ref 67] pK pK I J (pR t g) Q := by
  have hn8 := hr.2.1
  refine pM_of rfl (fun h => by cases h) rfl pKM (Nat.le_of_ble_eq_true rfl) ?_
  refine pE_aload_n dX12_proxy_0 rfl rfl ?_
  refine pE_callV (d' := 5) (as := []) dX12_proxy_1 lkX12_445 (cwX12_layProxy _ _) ivX12_layProxy ⟨_, rfl, rfl⟩ (by first | assumption | rfl) rfl rfl (Nat.le_of_ble_eq_true rfl) (by decide) pKK ?_
  refine M_X12_layProxy hH hr hrT hS hF hw hp0 (fun I1 hx hv h2a h2 => ?_)
  refine pE_aload_n dX12_proxy_4 rfl rfl ?_
  refine pE_callV (d' := 0) (as := []) dX12_proxy_5 lkX12_439 (cwX12_putDoers _ _) ivX12_putDoers ⟨_, rfl, rfl⟩ (by first | assumption | rfl) rfl rfl (Nat.le_of_ble_eq_true rfl) (by decide) pKK ?_
  refine M_X12_putDoers ((sz67 hx).trans hH.2.1) hn8 (fun t ht => ((rP_P (p := p) (T := T) hr).2 t ht).2) hv h2 (fun I3 f3 h3 => ?_)
  refine pE_aload_n dX12_proxy_8 rfl rfl ?_
  refine pE_getR dX12_proxy_9 flX12_100 rfl (by first | assumption | rfl) (by first | assumption | rfl) ?_
  refine pE_iconst (v := nI 0) dX12_proxy_12 rfl ?_
  refine pE_ialoadN dX12_proxy_13 (by first | assumption | rfl) (by first | assumption | omega) (by omega) ?_
  rw [show I3 95 0 = nI (btN (canS (svP p H T)) (prP p H T) (H 1) 0 0).1 from ((f3 95 0 (by decide) (by omega)).trans (h2 0 (Nat.zero_le _) 0 (by omega)).1)]
  refine pE_iret dX12_proxy_14 rfl rfl ?_
  exact hq _ (fun c k a b d e => (f3 c k d e).trans (hx c k a b)) h3
set_option maxHeartbeats 400000 in
set_option maxRecDepth 100000 in
theorem M_X12_toil {l : Launch} {X : pX} {t g : Nat} {I : pHI} {J : pHJ} {Q : pQ} {H T : pN} {p0 p : pP} (hH : mH H I) (hr : rH H) (hrT : rS 999 H T) (hS : mS 90 T I) (hF : mF 0 p0 I) (hw : p0 = [] ∨ wfp p0 0) (hp0 : fR 0 p0 p) (hq : ∀ I1, sz I I1 → Q (some (.int (nI (btN (canS (svP p H T)) (prP p H T) (H 1) 0 0).2))) I1 J (pR t g)) : pM l X yX12_toil mX12_toil 6 [.ref 67] pK pK I J (pR t g) Q := by
  refine pM_of rfl (fun h => by cases h) rfl pKM (Nat.le_of_ble_eq_true rfl) ?_
  refine pE_aload_n dX12_toil_0 rfl rfl ?_
  refine pE_callV (d' := 5) (as := []) dX12_toil_1 lkX12_445 (cwX12_layProxy _ _) ivX12_layProxy ⟨_, rfl, rfl⟩ (by first | assumption | rfl) rfl rfl (Nat.le_of_ble_eq_true rfl) (by decide) pKK ?_
  refine M_X12_layProxy hH hr hrT hS hF hw hp0 (fun I1 hx hv h2a h2 => ?_)
  refine pE_aload_n dX12_toil_4 rfl rfl ?_
  refine pE_getR dX12_toil_5 flX12_103 rfl (by first | assumption | rfl) (by first | assumption | rfl) ?_
  refine pE_iconst (v := nI 0) dX12_toil_8 rfl ?_
  refine pE_ialoadN dX12_toil_9 (by first | assumption | rfl) (by first | assumption | omega) (by omega) ?_
  rw [show I1 96 0 = nI (btN (canS (svP p H T)) (prP p H T) (H 1) 0 0).2 from (h2 0 (Nat.zero_le _) 0 (by omega)).2]
  refine pE_iret dX12_toil_10 rfl rfl ?_
  exact hq _ hx
