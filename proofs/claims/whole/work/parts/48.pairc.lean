set_option maxHeartbeats 400000 in
set_option maxRecDepth 100000 in
theorem LA_X6_solve {l : Launch} {X : pX} {t g : Nat} {I : pHI} {J : pHJ} {Q : pQ} {n : Nat} {sv pr : Nat → Nat} {v3 : Option Value} (hP : cP I n sv pr) (hr : rP n sv pr) (hq : ∀ I2, sP I I2 → (∀ s, s < 2 ^ n → I2 58 (n * 256 + s) = nI 0) → pE l X mX6_solve 3 pK 34 [some (.ref 54), some (.int (nI (2 ^ n))), some (.int (nI (2 ^ n))), v3] [] pK I2 J (pR t g) Q) : ∀ (fu : Nat) (j : Nat) (I1 : pHI), 2 ^ n - j < fu → (j ≤ 2 ^ n) → (sP I I1) → (∀ s, s < j → I1 58 (n * 256 + s) = nI 0) → pE l X mX6_solve 3 pK 9 [some (.ref 54), some (.int (nI (2 ^ n))), some (.int (nI j)), v3] [] pK I1 J (pR t g) Q := by
  intro fu
  induction fu with
  | zero => intro j I1 hn; exact absurd hn (Nat.not_lt_zero _)
  | succ fu ih =>
    intro j I1 hn hj hf hv
    have hn8 := hr.1
    have hp2 := p2_le hn8
    have hpr : ∀ t, t < n → pr t ≤ 20 := fun t ht => (hr.2 t ht).2
    have hP1 := hP.sP hf
    refine pE_iload_n dX6_solve_9 rfl rfl ?_
    refine pE_iload_n dX6_solve_10 rfl rfl ?_
    refine pE_icmp_ge (tgt := 34) dX6_solve_11 (by decide) (fun h11 => ?_) (fun h11 => ?_)
    · have g11 := nq_le (by omega) (by omega) h11
      obtain rfl : j = 2 ^ n := by omega
      exact hq _ hf hv
    · have g11 := nq_nle (by omega) (by omega) h11
      refine pE_aload_n dX6_solve_14 rfl rfl ?_
      refine pE_getR dX6_solve_15 flX6_25 rfl (by first | assumption | rfl) (by first | assumption | rfl) ?_
      refine pE_aload_n dX6_solve_18 rfl rfl ?_
      refine pE_getI dX6_solve_19 flX6_9 rfl (Or.inl rfl) (by first | assumption | rfl) ?_
      rw [hP1.1]
      refine pE_iload_n dX6_solve_22 rfl rfl ?_
      refine pE_callS (d' := 0) (as := [_, _]) dX6_solve_23 lkX6_37 (cwX6_placeOf _ _) svX6_placeOf rfl rfl (Nat.le_of_ble_eq_true rfl) (by decide) pKK ?_
      refine M_X6_placeOf (by omega) ?_
      refine pE_iconst (v := nI 0) dX6_solve_26 rfl ?_
      refine pE_iastoreN dX6_solve_27 (by first | assumption | rfl) (by first | assumption | omega) (by omega) ?_
      refine pE_iincN (c0 := 1) (lc' := [_, _, some (.int _), _]) dX6_solve_28 rfl rfl rfl rfl ?_
      refine pE_goto (tgt := 9) dX6_solve_31 (by decide) ?_
      refine ih (j + 1) _ (by omega) (by omega) (hf.pu (Or.inr rfl)) (fun s hs => ?_)
      rw [pu_at]
      by_cases e : s = j
      · subst e; simp
      · rw [if_neg (by omega)]; exact hv s (by omega)
set_option maxHeartbeats 400000 in
set_option maxRecDepth 100000 in
theorem LC_X6_solve {l : Launch} {X : pX} {t g : Nat} {I : pHI} {J : pHJ} {Q : pQ} {m : Nat} {n : Nat} {sv pr : Nat → Nat} (hP : cP I n sv pr) (hr : rP n sv pr) (hm : m < n) (hq : ∀ I2, sP I I2 → (∀ a, m ≤ a → a ≤ n → cT I2 n sv pr a) → pE l X mX6_solve 3 pK 82 [some (.ref 54), some (.int (nI (2 ^ n))), some (.int (nI m)), some (.int (nI (2 ^ n)))] [] pK I2 J (pR t g) Q) : ∀ (fu : Nat) (j : Nat) (I1 : pHI), 2 ^ n - j < fu → (j ≤ 2 ^ n) → (sP I I1) → (∀ a, m < a → a ≤ n → cT I1 n sv pr a) → (∀ s, s < j → popN s 8 ≤ m → I1 58 (m * 256 + s) = nI (vl (btN (canS sv) pr n m s))) → pE l X mX6_solve 3 pK 47 [some (.ref 54), some (.int (nI (2 ^ n))), some (.int (nI m)), some (.int (nI j))] [] pK I1 J (pR t g) Q := by
  intro fu
  induction fu with
  | zero => intro j I1 hn; exact absurd hn (Nat.not_lt_zero _)
  | succ fu ih =>
    intro j I1 hn hj hf hT hv
    have hn8 := hr.1
    have hp2 := p2_le hn8
    have hpr : ∀ t, t < n → pr t ≤ 20 := fun t ht => (hr.2 t ht).2
    have hP1 := hP.sP hf
    have hpl := popN_le j 8
    refine pE_iload_n dX6_solve_47 rfl rfl ?_
    refine pE_iload_n dX6_solve_48 rfl rfl ?_
    refine pE_icmp_ge (tgt := 82) dX6_solve_49 (by decide) (fun h49 => ?_) (fun h49 => ?_)
    · have g49 := nq_le (by omega) (by omega) h49
      obtain rfl : j = 2 ^ n := by omega
      refine hq _ hf (fun a h1 h2 => ?_)
      rcases Nat.lt_or_ge m a with c | c
      · exact hT a c h2
      · obtain rfl : a = m := by omega
        exact hv
    · have g49 := nq_nle (by omega) (by omega) h49
      refine pE_iload_n dX6_solve_52 rfl rfl ?_
      refine pE_callS (d' := 0) (as := [_]) dX6_solve_53 lkX6_40 (cwJ6_bitCount_0f7a4 _ _) svJ6_bitCount_0f7a4 rfl rfl (Nat.le_of_ble_eq_true rfl) (by decide) pKK ?_
      refine M_J6_bitCount_0f7a4 (by omega) ?_
      refine pE_iload_n dX6_solve_56 rfl rfl ?_
      refine pE_icmp_gt (tgt := 76) dX6_solve_57 (by decide) (fun h57 => ?_) (fun h57 => ?_)
      · have g57 := nq_lt (by omega) (by omega) h57
        refine pE_iincN (c0 := 1) (lc' := [_, _, _, some (.int _)]) dX6_solve_76 rfl rfl rfl rfl ?_
        refine pE_goto (tgt := 47) dX6_solve_79 (by decide) ?_
        first
        | (refine ih (j + 1) _ (by omega) (by omega) (hf.pu (Or.inr rfl)) (fun a h1 h2 s h3 h4 => ?_) (fun s hs h4 => ?_)
           · rw [pu_at, if_neg (by omega)]; exact hT a h1 h2 s h3 h4
           · rw [pu_at]
             by_cases e : s = j
             · subst e; simp
             · rw [if_neg (by omega)]; exact hv s (by omega) h4)
        | (refine ih (j + 1) _ (by omega) (by omega) hf hT (fun s hs h4 => ?_)
           by_cases e : s = j
           · subst e; omega
           · exact hv s (by omega) h4)
      · have g57 := nq_nlt (by omega) (by omega) h57
        refine pE_aload_n dX6_solve_60 rfl rfl ?_
        refine pE_getR dX6_solve_61 flX6_25 rfl (by first | assumption | rfl) (by first | assumption | rfl) ?_
        refine pE_iload_n dX6_solve_64 rfl rfl ?_
        refine pE_iload_n dX6_solve_65 rfl rfl ?_
        refine pE_callS (d' := 0) (as := [_, _]) dX6_solve_66 lkX6_37 (cwX6_placeOf _ _) svX6_placeOf rfl rfl (Nat.le_of_ble_eq_true rfl) (by decide) pKK ?_
        refine M_X6_placeOf (by omega) ?_
        refine pE_aload_n dX6_solve_69 rfl rfl ?_
        refine pE_iload_n dX6_solve_70 rfl rfl ?_
        refine pE_iload_n dX6_solve_71 rfl rfl ?_
        refine pE_callV (d' := 2) (as := [_, _]) dX6_solve_72 lkX6_46 (cwX6_bestFrom _ _) ivX6_bestFrom ⟨_, rfl, rfl⟩ (by first | assumption | rfl) rfl rfl (Nat.le_of_ble_eq_true rfl) (by decide) pKK ?_
        refine M_X6_bestFrom hP1 hr hm (by omega) (by omega) (hT (m + 1) (by omega) (by omega)) ?_
        refine pE_iastoreN dX6_solve_75 (by first | assumption | rfl) (by first | assumption | omega) (by omega) ?_
        refine pE_iincN (c0 := 1) (lc' := [_, _, _, some (.int _)]) dX6_solve_76 rfl rfl rfl rfl ?_
        refine pE_goto (tgt := 47) dX6_solve_79 (by decide) ?_
        first
        | (refine ih (j + 1) _ (by omega) (by omega) (hf.pu (Or.inr rfl)) (fun a h1 h2 s h3 h4 => ?_) (fun s hs h4 => ?_)
           · rw [pu_at, if_neg (by omega)]; exact hT a h1 h2 s h3 h4
           · rw [pu_at]
             by_cases e : s = j
             · subst e; simp
             · rw [if_neg (by omega)]; exact hv s (by omega) h4)
        | (refine ih (j + 1) _ (by omega) (by omega) hf hT (fun s hs h4 => ?_)
           by_cases e : s = j
           · subst e; omega
           · exact hv s (by omega) h4)
set_option maxHeartbeats 400000 in
set_option maxRecDepth 100000 in
theorem LB_X6_solve {l : Launch} {X : pX} {t g : Nat} {I : pHI} {J : pHJ} {Q : pQ} {n : Nat} {sv pr : Nat → Nat} (hP : cP I n sv pr) (hr : rP n sv pr) (hq : ∀ I2, sP I I2 → (∀ i, i < n → I2 57 i = oI (chN (canS sv) pr n i)) → Q none I2 J (pR t g)) : ∀ (m : Nat) (I1 : pHI) (v3 : Option Value), m ≤ n → sP I I1 → (∀ a, m ≤ a → a ≤ n → cT I1 n sv pr a) → pE l X mX6_solve 3 pK 41 [some (.ref 54), some (.int (nI (2 ^ n))), some (.int (nI m + -1)), v3] [] pK I1 J (pR t g) Q := by
  have hn8 := hr.1
  have hp2 := p2_le hn8
  intro m
  induction m with
  | zero =>
    intro I1 v3 hm hf hT
    refine pE_iload_n dX6_solve_41 rfl rfl ?_
    refine pE_if_lt (tgt := 88) dX6_solve_42 (by decide) (fun h42 => ?_) (fun h42 => ?_)
    · refine pE_aload_n dX6_solve_88 rfl rfl ?_
      refine pE_callV (d' := 2) (as := []) dX6_solve_89 lkX6_49 (cwX6_choose _ _) ivX6_choose ⟨_, rfl, rfl⟩ (by first | assumption | rfl) rfl rfl (Nat.le_of_ble_eq_true rfl) (by decide) pKK ?_
      refine M_X6_choose (hP.sP hf) hr (fun a ha => hT a (Nat.zero_le _) ha) (fun I2 f2 h2 => ?_)
      refine pE_vret dX6_solve_92 rfl rfl ?_
      exact hq _ (hf.tr f2) h2
    · exact absurd (by decide : nI 0 + -1 < 0) h42
  | succ m ih =>
    intro I1 v3 hm hf hT
    rw [nI_dec]
    refine pE_iload_n dX6_solve_41 rfl rfl ?_
    refine pE_if_lt (tgt := 88) dX6_solve_42 (by decide) (fun h42 => ?_) (fun h42 => ?_)
    · exact absurd h42 (nI_pos (by omega))
    · refine pE_iconst (v := nI 0) dX6_solve_45 rfl ?_
      refine pE_istore_n (lc' := [_, _, _, some (.int _)]) dX6_solve_46 rfl (Nat.le_of_ble_eq_true rfl) rfl rfl ?_
      refine LC_X6_solve (I := I1) (hP.sP hf) hr (by omega) (fun I2 f2 h2 => ?_) (2 ^ n + 1) 0 I1 (Nat.lt_succ_of_le (Nat.sub_le _ _)) (Nat.zero_le _) sP.rf (fun a h1 h2 => hT a (by omega) h2) (fun s hs => by omega)
      refine pE_iinc (c0 := -1) (lc' := [_, _, some (.int _), _]) dX6_solve_82 rfl rfl rfl rfl ?_
      refine pE_goto (tgt := 41) dX6_solve_85 (by decide) ?_
      exact ih I2 _ (by omega) (hf.tr f2) h2
set_option maxHeartbeats 400000 in
set_option maxRecDepth 100000 in
theorem M_X6_solve {l : Launch} {X : pX} {t g : Nat} {I : pHI} {J : pHJ} {Q : pQ} {n : Nat} {sv pr : Nat → Nat} (hP : cP I n sv pr) (hr : rP n sv pr) (hq : ∀ I2, sP I I2 → (∀ i, i < n → I2 57 i = oI (chN (canS sv) pr n i)) → Q none I2 J (pR t g)) : pM l X yX6_solve mX6_solve 3 [.ref 54] pK pK I J (pR t g) Q := by
  have hn8 := hr.1
  have hp2 := p2_le hn8
  refine pM_of rfl (fun h => by cases h) rfl pKM (Nat.le_of_ble_eq_true rfl) ?_
  refine pE_iconst (v := nI 1) dX6_solve_0 rfl ?_
  refine pE_aload_n dX6_solve_1 rfl rfl ?_
  refine pE_getI dX6_solve_2 flX6_9 rfl (Or.inl rfl) (by first | assumption | rfl) ?_
  rw [hP.1]
  refine pE_ishl dX6_solve_5 ?_
  rw [one_shl hn8]
  refine pE_istore_n (lc' := [_, some (.int _), _, _]) dX6_solve_6 rfl (Nat.le_of_ble_eq_true rfl) rfl rfl ?_
  refine pE_iconst (v := nI 0) dX6_solve_7 rfl ?_
  refine pE_istore_n (lc' := [_, _, some (.int _), _]) dX6_solve_8 rfl (Nat.le_of_ble_eq_true rfl) rfl rfl ?_
  refine LA_X6_solve hP hr (fun I1 hf h0 => ?_) (2 ^ n + 1) 0 I (Nat.lt_succ_of_le (Nat.sub_le _ _)) (Nat.zero_le _) sP.rf (fun s hs => by omega)
  refine pE_aload_n dX6_solve_34 rfl rfl ?_
  refine pE_getI dX6_solve_35 flX6_9 rfl (Or.inl rfl) (by first | assumption | rfl) ?_
  rw [(hP.sP hf).1]
  refine pE_iconst (v := nI 1) dX6_solve_38 rfl ?_
  refine pE_isub dX6_solve_39 ?_
  refine pE_istore_n (lc' := [_, _, some (.int _), _]) dX6_solve_40 rfl (Nat.le_of_ble_eq_true rfl) rfl rfl ?_
  refine pE_cg (LB_X6_solve hP hr hq n I1 _ (Nat.le_refl _) hf (fun a h1 h2 s h3 h4 => ?_)) (by rw [Int32.sub_eq_add_neg]; rfl) rfl rfl rfl rfl
  obtain rfl : a = n := by omega
  rw [bt_end]
  exact h0 s h3
