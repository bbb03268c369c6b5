set_option maxHeartbeats 400000 in
set_option maxRecDepth 100000 in
theorem L_X6_choose {l : Launch} {X : pX} {t g : Nat} {I : pHI} {J : pHJ} {Q : pQ} {n : Nat} {sv pr : Nat → Nat} (hP : cP I n sv pr) (hr : rP n sv pr) (hTa : ∀ a, a ≤ n → cT I n sv pr a) (hq : ∀ I2, sP I I2 → (∀ i, i < n → I2 57 i = oI (chN (canS sv) pr n i)) → Q none I2 J (pR t g)) : ∀ (fu : Nat) (j : Nat) (v3 : Option Value) (v4 : Option Value) (I1 : pHI), n - j < fu → (j ≤ n) → (sP I I1) → (I1 58 = I 58) → (∀ i, i < j → I1 57 i = oI (chN (canS sv) pr n i)) → pE l X mX6_choose 2 pK 4 [some (.ref 54), some (.int (nI (chS (canS sv) pr n j))), some (.int (nI j)), v3, v4] [] pK I1 J (pR t g) Q := by
  intro fu
  induction fu with
  | zero => intro j v3 v4 I1 hn; exact absurd hn (Nat.not_lt_zero _)
  | succ fu ih =>
    intro j v3 v4 I1 hn hj hf h58 hv
    have hn8 := hr.1
    have hp2 := p2_le hn8
    have hpr : ∀ t, t < n → pr t ≤ 20 := fun t ht => (hr.2 t ht).2
    have hP1 := hP.sP hf
    have hso := chS_ok (C := canS sv) (pr := pr) hn8 j
    have hs6 : (chS (canS sv) pr n j) < 256 := by have := hso.1; omega
    refine pE_iload_n dX6_choose_4 rfl rfl ?_
    refine pE_aload_n dX6_choose_5 rfl rfl ?_
    refine pE_getI dX6_choose_6 flX6_9 rfl (Or.inl rfl) (by first | assumption | rfl) ?_
    rw [hP1.1]
    refine pE_icmp_ge (tgt := 116) dX6_choose_9 (by decide) (fun h9 => ?_) (fun h9 => ?_)
    · have g9 := nq_le (by omega) (by omega) h9
      refine pE_vret dX6_choose_116 rfl rfl ?_
      obtain rfl : j = n := by omega
      exact hq _ hf hv
    · have g9 := nq_nle (by omega) (by omega) h9
      refine pE_aload_n dX6_choose_12 rfl rfl ?_
      refine pE_getR dX6_choose_13 flX6_25 rfl (by first | assumption | rfl) (by first | assumption | rfl) ?_
      refine pE_iload_n dX6_choose_16 rfl rfl ?_
      refine pE_iload_n dX6_choose_17 rfl rfl ?_
      refine pE_callS (d' := 0) (as := [_, _]) dX6_choose_18 lkX6_37 (cwX6_placeOf _ _) svX6_placeOf rfl rfl (Nat.le_of_ble_eq_true rfl) (by decide) pKK ?_
      refine M_X6_placeOf hs6 ?_
      refine pE_ialoadN dX6_choose_21 (by first | assumption | rfl) (by first | assumption | omega) (by omega) ?_
      rw [show I1 58 (j * 256 + (chS (canS sv) pr n j)) = nI (vl (btN (canS sv) pr n j (chS (canS sv) pr n j))) by rw [h58]; exact hTa j hj _ hso.1 hso.2]
      refine pE_istore_n (lc' := [_, _, _, some (.int _), _]) dX6_choose_22 rfl (Nat.le_of_ble_eq_true rfl) rfl rfl ?_
      refine pE_aload_n dX6_choose_23 rfl rfl ?_
      refine pE_getR dX6_choose_24 flX6_22 rfl (by first | assumption | rfl) (by first | assumption | rfl) ?_
      refine pE_iload_n dX6_choose_27 rfl rfl ?_
      refine pE_iconst (v := -1) dX6_choose_28 rfl ?_
      refine pE_iastoreN dX6_choose_29 (by first | assumption | rfl) (by first | assumption | omega) (by omega) ?_
      refine pE_iconst (v := nI 0) dX6_choose_30 rfl ?_
      refine pE_istore (lc' := [_, _, _, _, some (.int _)]) dX6_choose_31 (Nat.le_of_ble_eq_true rfl) rfl rfl ?_
      refine L1_X6_choose hP hr hTa (by omega) hso.1 hso.2 (hf.pu (Or.inl rfl)) (by rw [pu_ne _ _ _ (by decide)]; exact h58) (by rw [pu_eq]; simp) (fun I2 y4 f2 g1 g2 g3 => ?_) (n + 1) 0 (by omega) (by omega) rfl
      cases e : chN (canS sv) pr n j with
      | none =>
        rw [show fstN (chP (canS sv) pr n j (chS (canS sv) pr n j)) n n = none from e] at g3
        refine pE_aload_n dX6_choose_89 rfl rfl ?_
        refine pE_getR dX6_choose_90 flX6_22 rfl (by first | assumption | rfl) (by first | assumption | rfl) ?_
        refine pE_iload_n dX6_choose_93 rfl rfl ?_
        refine pE_ialoadN dX6_choose_94 (by first | assumption | rfl) (by first | assumption | omega) (by omega) ?_
        rw [g3, show oI none = (-1 : Int32) from rfl]
        refine pE_iconst (v := -1) dX6_choose_95 rfl ?_
        refine pE_icmp_eq (tgt := 110) dX6_choose_96 (by decide) (fun h96 => ?_) (fun h96 => ?_)
        · refine pE_iincN (c0 := 1) (lc' := [_, _, some (.int _), _, _]) dX6_choose_110 rfl rfl rfl rfl ?_
          refine pE_goto (tgt := 4) dX6_choose_113 (by decide) ?_
          refine pE_cg (ih (j + 1) _ _ I2 (by omega) (by omega) f2 (by rw [g2, pu_ne _ _ _ (by decide)]; exact h58) (fun i hi => ?_)) (by rw [chS_none e]) rfl rfl rfl rfl
          by_cases c : i = j
          · subst c; rw [g3, e]
          · rw [g1 i c, pu_eq]; simp only [if_neg c]; exact hv i (by omega)
        · exact absurd rfl h96
      | some b =>
        rw [show fstN (chP (canS sv) pr n j (chS (canS sv) pr n j)) n n = some b from e] at g3
        have hb := (ch_some e).1
        rw [show oI (some b) = nI b from rfl] at g3
        refine pE_aload_n dX6_choose_89 rfl rfl ?_
        refine pE_getR dX6_choose_90 flX6_22 rfl (by first | assumption | rfl) (by first | assumption | rfl) ?_
        refine pE_iload_n dX6_choose_93 rfl rfl ?_
        refine pE_ialoadN dX6_choose_94 (by first | assumption | rfl) (by first | assumption | omega) (by omega) ?_
        rw [g3]
        refine pE_iconst (v := -1) dX6_choose_95 rfl ?_
        refine pE_icmp_eq (tgt := 110) dX6_choose_96 (by decide) (fun h96 => ?_) (fun h96 => ?_)
        · exact absurd h96 (nI_m1n (by omega))
        · refine pE_iload_n dX6_choose_99 rfl rfl ?_
          refine pE_iconst (v := nI 1) dX6_choose_100 rfl ?_
          refine pE_aload_n dX6_choose_101 rfl rfl ?_
          refine pE_getR dX6_choose_102 flX6_22 rfl (by first | assumption | rfl) (by first | assumption | rfl) ?_
          refine pE_iload_n dX6_choose_105 rfl rfl ?_
          refine pE_ialoadN dX6_choose_106 (by first | assumption | rfl) (by first | assumption | omega) (by omega) ?_
          rw [g3]
          refine pE_ishl dX6_choose_107 ?_
          refine pE_ior dX6_choose_108 ?_
          rw [or_bit hs6 (by omega)]
          refine pE_istore_n (lc' := [_, some (.int _), _, _, _]) dX6_choose_109 rfl (Nat.le_of_ble_eq_true rfl) rfl rfl ?_
          refine pE_iincN (c0 := 1) (lc' := [_, _, some (.int _), _, _]) dX6_choose_110 rfl rfl rfl rfl ?_
          refine pE_goto (tgt := 4) dX6_choose_113 (by decide) ?_
          refine pE_cg (ih (j + 1) _ _ I2 (by omega) (by omega) f2 (by rw [g2, pu_ne _ _ _ (by decide)]; exact h58) (fun i hi => ?_)) (by rw [chS_some e]) rfl rfl rfl rfl
          by_cases c : i = j
          · subst c; rw [g3, e]; rfl
          · rw [g1 i c, pu_eq]; simp only [if_neg c]; exact hv i (by omega)
set_option maxHeartbeats 400000 in
set_option maxRecDepth 100000 in
theorem M_X6_choose {l : Launch} {X : pX} {t g : Nat} {I : pHI} {J : pHJ} {Q : pQ} {n : Nat} {sv pr : Nat → Nat} (hP : cP I n sv pr) (hr : rP n sv pr) (hTa : ∀ a, a ≤ n → cT I n sv pr a) (hq : ∀ I2, sP I I2 → (∀ i, i < n → I2 57 i = oI (chN (canS sv) pr n i)) → Q none I2 J (pR t g)) : pM l X yX6_choose mX6_choose 2 [.ref 54] pK pK I J (pR t g) Q := by
  refine pM_of rfl (fun h => by cases h) rfl pKM (Nat.le_of_ble_eq_true rfl) ?_
  refine pE_iconst (v := nI 0) dX6_choose_0 rfl ?_
  refine pE_istore_n (lc' := [_, some (.int _), _, _, _]) dX6_choose_1 rfl (Nat.le_of_ble_eq_true rfl) rfl rfl ?_
  refine pE_iconst (v := nI 0) dX6_choose_2 rfl ?_
  refine pE_istore_n (lc' := [_, _, some (.int _), _, _]) dX6_choose_3 rfl (Nat.le_of_ble_eq_true rfl) rfl rfl ?_
  exact L_X6_choose hP hr hTa hq (n + 1) 0 _ _ I (by omega) (by omega) sP.rf rfl (fun i hi => by omega)
