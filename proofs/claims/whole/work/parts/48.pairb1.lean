set_option maxHeartbeats 400000 in
set_option maxRecDepth 100000 in
theorem L1_X6_choose {l : Launch} {X : pX} {t g : Nat} {I : pHI} {J : pHJ} {Q : pQ} {a s : Nat} {I1 : pHI} {n : Nat} {sv pr : Nat → Nat} (hP : cP I n sv pr) (hr : rP n sv pr) (hTa : ∀ a, a ≤ n → cT I n sv pr a) (ha : a < n) (hs : s < 2 ^ n) (hps : popN s 8 ≤ a) (hf : sP I I1) (h58 : I1 58 = I 58) (h57 : I1 57 a = -1) (hq : ∀ I2 y4, sP I I2 → (∀ i, i ≠ a → I2 57 i = I1 57 i) → I2 58 = I1 58 → I2 57 a = oI (fstN (chP (canS sv) pr n a s) n n) → pE l X mX6_choose 2 pK 89 [some (.ref 54), some (.int (nI s)), some (.int (nI a)), some (.int (nI (vl (btN (canS sv) pr n a s)))), some (.int y4)] [] pK I2 J (pR t g) Q) : ∀ (fu : Nat) (j : Nat), n - j < fu → (j ≤ n) → ((fstN (chP (canS sv) pr n a s) n n) = (fstN (chP (canS sv) pr n a s) n (n - j))) → pE l X mX6_choose 2 pK 33 [some (.ref 54), some (.int (nI s)), some (.int (nI a)), some (.int (nI (vl (btN (canS sv) pr n a s)))), some (.int (nI j))] [] pK I1 J (pR t g) Q := by
  intro fu
  induction fu with
  | zero => intro j hn; exact absurd hn (Nat.not_lt_zero _)
  | succ fu ih =>
    intro j hn hj he
    have hn8 := hr.1
    have hp2 := p2_le hn8
    have hpr : ∀ t, t < n → pr t ≤ 20 := fun t ht => (hr.2 t ht).2
    have hP1 := hP.sP hf
    have hT1 := hTa (a + 1) (by omega)
    have hvb := vl_le (bt_ok hpr hn8 (C := canS sv) (t := a) s)
    have hcd : ∀ b, okP 9 (cdN pr (btN (canS sv) pr n (a + 1)) a s b) := fun b => cd_ok (hpr a ha) (bt_ok hpr hn8 _)
    have hcl := vl_le (hcd j)
    refine pE_iload dX6_choose_33 rfl ?_
    refine pE_aload_n dX6_choose_35 rfl rfl ?_
    refine pE_getI dX6_choose_36 flX6_9 rfl (Or.inl rfl) (by first | assumption | rfl) ?_
    rw [hP1.1]
    refine pE_icmp_ge (tgt := 89) dX6_choose_39 (by decide) (fun h39 => ?_) (fun h39 => ?_)
    · have g39 := nq_le (by omega) (by omega) h39
      obtain rfl : j = n := by omega
      rw [Nat.sub_self] at he
      exact hq I1 _ hf (fun i hi => rfl) rfl (by rw [he]; exact h57)
    · have g39 := nq_nle (by omega) (by omega) h39
      refine pE_aload_n dX6_choose_42 rfl rfl ?_
      refine pE_getR dX6_choose_43 flX6_22 rfl (by first | assumption | rfl) (by first | assumption | rfl) ?_
      refine pE_iload_n dX6_choose_46 rfl rfl ?_
      refine pE_ialoadN dX6_choose_47 (by first | assumption | rfl) (by first | assumption | omega) (by omega) ?_
      rw [h57]
      refine pE_iconst (v := -1) dX6_choose_48 rfl ?_
      refine pE_icmp_ne (tgt := 89) dX6_choose_49 (by decide) (fun h49 => ?_) (fun h49 => ?_)
      · exact absurd rfl h49
      · refine pE_aload_n dX6_choose_52 rfl rfl ?_
        refine pE_iload dX6_choose_53 rfl ?_
        refine pE_iload_n dX6_choose_55 rfl rfl ?_
        refine pE_iload_n dX6_choose_56 rfl rfl ?_
        refine pE_callV (d' := 0) (as := [_, _, _]) dX6_choose_57 lkX6_52 (cwX6_canServe _ _) ivX6_canServe ⟨_, rfl, rfl⟩ (by first | assumption | rfl) rfl rfl (Nat.le_of_ble_eq_true rfl) (by decide) pKK ?_
        refine M_X6_canServe (hP1.2 a ha).1 (hr.2 a ha).1 (by omega) (by omega) (by omega) (fun k1 k2 => ?_) (fun k => ?_)
        · refine pE_if_eq_f (tgt := 83) dX6_choose_60 (by decide) nI_1n0 ?_
          refine pE_aload_n dX6_choose_63 rfl rfl ?_
          refine pE_iload dX6_choose_64 rfl ?_
          refine pE_iload_n dX6_choose_66 rfl rfl ?_
          refine pE_iload_n dX6_choose_67 rfl rfl ?_
          refine pE_callV (d' := 1) (as := [_, _, _]) dX6_choose_68 lkX6_56 (cwX6_valueWith _ _) ivX6_valueWith ⟨_, rfl, rfl⟩ (by first | assumption | rfl) rfl rfl (Nat.le_of_ble_eq_true rfl) (by decide) pKK ?_
          refine M_X6_valueWith (hP1.2 a ha).2 (hr.2 a ha).2 (by omega) (by omega) (by omega) (by rw [h58]; exact hT1 _ (add_lt hn8 hs (by omega)) (by rw [add_pop (by omega) (by omega) k2]; omega)) ?_
          rw [vl_cd (hpr a ha) (bt_ok hpr hn8 _)]
          refine pE_iload_n dX6_choose_71 rfl rfl ?_
          refine pE_icmp_ne (tgt := 83) dX6_choose_72 (by decide) (fun h72 => ?_) (fun h72 => ?_)
          · have g72 := nq_ne (by omega) (by omega) h72
            refine pE_iincN (c0 := 1) (lc' := [_, _, _, _, some (.int _)]) dX6_choose_83 rfl rfl rfl rfl ?_
            refine pE_goto (tgt := 33) dX6_choose_86 (by decide) ?_
            have hst := fst_step (P := chP (canS sv) pr n a s) (show j < n by omega)
            have hcv := ch_vl (s := s) (b := j) hr ha (by omega)
            rw [vl_cd (hpr a ha) (bt_ok hpr hn8 _)] at hcv
            first
            | (have c : chP (canS sv) pr n a s j = true := hcv.mp ⟨k1, k2, g72⟩
               rw [if_pos c] at hst
               exact L0_X6_choose hn8 ha (by omega) (show j < n by omega) (by rw [pu_ne _ _ _ (by decide)]; exact hP1.1) (by rw [pu_eq]; simp) (fun y4 => hq _ _ (hf.pu (Or.inl rfl)) (fun i hi => by rw [pu_eq]; simp [hi]) (by rw [pu_ne _ _ _ (by decide)]) (by rw [pu_eq, he, hst]; simp [oI])))
            | (have c : ¬ chP (canS sv) pr n a s j = true := fun h => g72 (hcv.mpr h).2.2
               rw [if_neg c] at hst
               exact ih (j + 1) (by omega) (by omega) (by rw [he, hst]))
            | (have c : ¬ chP (canS sv) pr n a s j = true := fun h => k ⟨(hcv.mpr h).1, (hcv.mpr h).2.1⟩
               rw [if_neg c] at hst
               exact ih (j + 1) (by omega) (by omega) (by rw [he, hst]))
          · have g72 := nq_eq (by omega) (by omega) h72
            refine pE_aload_n dX6_choose_75 rfl rfl ?_
            refine pE_getR dX6_choose_76 flX6_22 rfl (by first | assumption | rfl) (by first | assumption | rfl) ?_
            refine pE_iload_n dX6_choose_79 rfl rfl ?_
            refine pE_iload dX6_choose_80 rfl ?_
            refine pE_iastoreN dX6_choose_82 (by first | assumption | rfl) (by first | assumption | omega) (by omega) ?_
            refine pE_iincN (c0 := 1) (lc' := [_, _, _, _, some (.int _)]) dX6_choose_83 rfl rfl rfl rfl ?_
            refine pE_goto (tgt := 33) dX6_choose_86 (by decide) ?_
            have hst := fst_step (P := chP (canS sv) pr n a s) (show j < n by omega)
            have hcv := ch_vl (s := s) (b := j) hr ha (by omega)
            rw [vl_cd (hpr a ha) (bt_ok hpr hn8 _)] at hcv
            first
            | (have c : chP (canS sv) pr n a s j = true := hcv.mp ⟨k1, k2, g72⟩
               rw [if_pos c] at hst
               exact L0_X6_choose hn8 ha (by omega) (show j < n by omega) (by rw [pu_ne _ _ _ (by decide)]; exact hP1.1) (by rw [pu_eq]; simp) (fun y4 => hq _ _ (hf.pu (Or.inl rfl)) (fun i hi => by rw [pu_eq]; simp [hi]) (by rw [pu_ne _ _ _ (by decide)]) (by rw [pu_eq, he, hst]; simp [oI])))
            | (have c : ¬ chP (canS sv) pr n a s j = true := fun h => g72 (hcv.mpr h).2.2
               rw [if_neg c] at hst
               exact ih (j + 1) (by omega) (by omega) (by rw [he, hst]))
            | (have c : ¬ chP (canS sv) pr n a s j = true := fun h => k ⟨(hcv.mpr h).1, (hcv.mpr h).2.1⟩
               rw [if_neg c] at hst
               exact ih (j + 1) (by omega) (by omega) (by rw [he, hst]))
        · refine pE_if_eq_t (tgt := 83) dX6_choose_60 (by decide) nI_0 ?_
          refine pE_iincN (c0 := 1) (lc' := [_, _, _, _, some (.int _)]) dX6_choose_83 rfl rfl rfl rfl ?_
          refine pE_goto (tgt := 33) dX6_choose_86 (by decide) ?_
          have hst := fst_step (P := chP (canS sv) pr n a s) (show j < n by omega)
          have hcv := ch_vl (s := s) (b := j) hr ha (by omega)
          rw [vl_cd (hpr a ha) (bt_ok hpr hn8 _)] at hcv
          first
          | (have c : chP (canS sv) pr n a s j = true := hcv.mp ⟨k1, k2, g72⟩
             rw [if_pos c] at hst
             exact L0_X6_choose hn8 ha (by omega) (show j < n by omega) (by rw [pu_ne _ _ _ (by decide)]; exact hP1.1) (by rw [pu_eq]; simp) (fun y4 => hq _ _ (hf.pu (Or.inl rfl)) (fun i hi => by rw [pu_eq]; simp [hi]) (by rw [pu_ne _ _ _ (by decide)]) (by rw [pu_eq, he, hst]; simp [oI])))
          | (have c : ¬ chP (canS sv) pr n a s j = true := fun h => g72 (hcv.mpr h).2.2
             rw [if_neg c] at hst
             exact ih (j + 1) (by omega) (by omega) (by rw [he, hst]))
          | (have c : ¬ chP (canS sv) pr n a s j = true := fun h => k ⟨(hcv.mpr h).1, (hcv.mpr h).2.1⟩
             rw [if_neg c] at hst
             exact ih (j + 1) (by omega) (by omega) (by rw [he, hst]))
