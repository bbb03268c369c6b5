set_option maxHeartbeats 400000 in
set_option maxRecDepth 100000 in
theorem M_X6_placeOf {l : Launch} {X : pX} {t g : Nat} {I : pHI} {J : pHJ} {Q : pQ} {a s : Nat} (hs : s < 256) (hq : Q (some (.int (nI (a * 256 + s)))) I J (pR t g)) : pM l X yX6_placeOf mX6_placeOf 0 [.int (nI a), .int (nI s)] pK pK I J (pR t g) Q := by
  refine pM_of rfl (fun h => by cases h) rfl pKM (Nat.le_of_ble_eq_true rfl) ?_
  refine pE_iload_n dX6_placeOf_0 rfl rfl ?_
  refine pE_sipush (v := nI 256) dX6_placeOf_1 rfl ?_
  refine pE_imulN dX6_placeOf_4 ?_
  refine pE_iload_n dX6_placeOf_5 rfl rfl ?_
  refine pE_sipush (v := nI 255) dX6_placeOf_6 rfl ?_
  refine pE_iand dX6_placeOf_9 ?_
  rw [and255 hs]
  refine pE_iaddN dX6_placeOf_10 ?_
  refine pE_iret dX6_placeOf_11 rfl rfl ?_
  exact hq
set_option maxHeartbeats 400000 in
set_option maxRecDepth 100000 in
theorem L_X6_clear {l : Launch} {X : pX} {t g : Nat} {I : pHI} {J : pHJ} {Q : pQ} {n : Nat} (hq : ∀ I2, (∀ c k, ¬ (54 ≤ c ∧ c ≤ 57) → I2 c k = I c k) → I2 54 0 = nI n → (∀ i, i < 8 → I2 55 i = nI 0 ∧ I2 56 i = nI 0 ∧ I2 57 i = -1) → Q none I2 J (pR t g)) : ∀ (fu : Nat) (j : Nat) (I1 : pHI), 8 - j < fu → (j ≤ 8) → (∀ c k, ¬ (54 ≤ c ∧ c ≤ 57) → I1 c k = I c k) → (I1 54 0 = nI n) → (∀ i, i < j → I1 55 i = nI 0 ∧ I1 56 i = nI 0 ∧ I1 57 i = -1) → pE l X mX6_clear 1 pK 16 [some (.ref 54), some (.int (nI n)), some (.int (nI j))] [] pK I1 J (pR t g) Q := by
  intro fu
  induction fu with
  | zero => intro j I1 hn; exact absurd hn (Nat.not_lt_zero _)
  | succ fu ih =>
    intro j I1 hn hj hf h0 hv
    refine pE_iload_n dX6_clear_16 rfl rfl ?_
    refine pE_bipush (v := nI 8) dX6_clear_17 rfl ?_
    refine pE_icmp_ge (tgt := 49) dX6_clear_19 (by decide) (fun h19 => ?_) (fun h19 => ?_)
    · have g19 := nq_le (by omega) (by omega) h19
      refine pE_vret dX6_clear_49 rfl rfl ?_
      obtain rfl : j = 8 := by omega
      exact hq _ hf h0 hv
    · have g19 := nq_nle (by omega) (by omega) h19
      refine pE_aload_n dX6_clear_22 rfl rfl ?_
      refine pE_getR dX6_clear_23 flX6_15 rfl (by first | assumption | rfl) (by first | assumption | rfl) ?_
      refine pE_iload_n dX6_clear_26 rfl rfl ?_
      refine pE_iconst (v := nI 0) dX6_clear_27 rfl ?_
      refine pE_iastoreN dX6_clear_28 (by first | assumption | rfl) (by first | assumption | omega) (by omega) ?_
      refine pE_aload_n dX6_clear_29 rfl rfl ?_
      refine pE_getR dX6_clear_30 flX6_19 rfl (by first | assumption | rfl) (by first | assumption | rfl) ?_
      refine pE_iload_n dX6_clear_33 rfl rfl ?_
      refine pE_iconst (v := nI 0) dX6_clear_34 rfl ?_
      refine pE_iastoreN dX6_clear_35 (by first | assumption | rfl) (by first | assumption | omega) (by omega) ?_
      refine pE_aload_n dX6_clear_36 rfl rfl ?_
      refine pE_getR dX6_clear_37 flX6_22 rfl (by first | assumption | rfl) (by first | assumption | rfl) ?_
      refine pE_iload_n dX6_clear_40 rfl rfl ?_
      refine pE_iconst (v := -1) dX6_clear_41 rfl ?_
      refine pE_iastoreN dX6_clear_42 (by first | assumption | rfl) (by first | assumption | omega) (by omega) ?_
      refine pE_iincN (c0 := 1) (lc' := [_, _, some (.int _)]) dX6_clear_43 rfl rfl rfl rfl ?_
      refine pE_goto (tgt := 16) dX6_clear_46 (by decide) ?_
      refine ih (j + 1) _ (by omega) (by omega) (fun c k hc => by rw [pu_ne _ _ _ (by omega), pu_ne _ _ _ (by omega), pu_ne _ _ _ (by omega)]; exact hf c k hc) (by rw [pu_ne _ _ _ (by omega), pu_ne _ _ _ (by omega), pu_ne _ _ _ (by omega)]; exact h0) (fun i hi => ?_)
      rw [pu_at, pu_at, pu_at, pu_at, pu_at, pu_at, pu_at, pu_at, pu_at]
      by_cases e : i = j
      · subst e; simp
      · have := hv i (by omega)
        simp [e, this]
set_option maxHeartbeats 400000 in
set_option maxRecDepth 100000 in
theorem M_X6_clear {l : Launch} {X : pX} {t g : Nat} {I : pHI} {J : pHJ} {Q : pQ} {n : Nat} (hn : n ≤ 8) (hq : ∀ I2, (∀ c k, ¬ (54 ≤ c ∧ c ≤ 57) → I2 c k = I c k) → I2 54 0 = nI n → (∀ i, i < 8 → I2 55 i = nI 0 ∧ I2 56 i = nI 0 ∧ I2 57 i = -1) → Q none I2 J (pR t g)) : pM l X yX6_clear mX6_clear 1 [.ref 54, .int (nI n)] pK pK I J (pR t g) Q := by
  refine pM_of rfl (fun h => by cases h) rfl pKM (Nat.le_of_ble_eq_true rfl) ?_
  refine pE_aload_n dX6_clear_0 rfl rfl ?_
  refine pE_iconst (v := nI 0) dX6_clear_1 rfl ?_
  refine pE_iload_n dX6_clear_2 rfl rfl ?_
  refine pE_bipush (v := nI 8) dX6_clear_3 rfl ?_
  refine pE_min dX6_clear_5 lkX6_28 (by decide) (Nat.le_of_ble_eq_true rfl) ?_
  rw [nI_min _ _ (by omega) (by omega), Nat.min_eq_left hn]
  refine pE_max dX6_clear_8 lkX6_34 (by decide) (Nat.le_of_ble_eq_true rfl) ?_
  rw [nI_max _ _ (by omega) (by omega), Nat.max_eq_right (Nat.zero_le _)]
  refine pE_putI dX6_clear_11 flX6_9 ftX6 fiX6_0 rfl rfl (by first | assumption | rfl) ?_
  refine pE_iconst (v := nI 0) dX6_clear_14 rfl ?_
  refine pE_istore_n (lc' := [_, _, some (.int _)]) dX6_clear_15 rfl (Nat.le_of_ble_eq_true rfl) rfl rfl ?_
  exact L_X6_clear hq 9 0 _ (by omega) (by omega) (fun c k hc => by rw [pu_ne _ _ _ (by omega)]) (by rw [pu_eq]; simp) (fun i hi => by omega)
set_option maxHeartbeats 400000 in
set_option maxRecDepth 100000 in
theorem M_X6_allow {l : Launch} {X : pX} {t g : Nat} {I : pHI} {J : pHJ} {Q : pQ} {n a s c : Nat} (h0 : I 54 0 = nI n) (ha : a < n) (hn : n ≤ 8) (hq : Q none (pu (pu I 55 a (nI s)) 56 a (nI c)) J (pR t g)) : pM l X yX6_allow mX6_allow 0 [.ref 54, .int (nI a), .int (nI s), .int (nI c)] pK pK I J (pR t g) Q := by
  refine pM_of rfl (fun h => by cases h) rfl pKM (Nat.le_of_ble_eq_true rfl) ?_
  refine pE_iload_n dX6_allow_0 rfl rfl ?_
  refine pE_if_lt (tgt := 26) dX6_allow_1 (by decide) (fun h1 => ?_) (fun h1 => ?_)
  · exact absurd h1 (nI_pos (by omega))
  · refine pE_iload_n dX6_allow_4 rfl rfl ?_
    refine pE_aload_n dX6_allow_5 rfl rfl ?_
    refine pE_getI dX6_allow_6 flX6_9 rfl (Or.inl rfl) (by first | assumption | rfl) ?_
    rw [h0]
    refine pE_icmp_ge (tgt := 26) dX6_allow_9 (by decide) (fun h9 => ?_) (fun h9 => ?_)
    · have g9 := nq_le (by omega) (by omega) h9
      omega
    · have g9 := nq_nle (by omega) (by omega) h9
      refine pE_aload_n dX6_allow_12 rfl rfl ?_
      refine pE_getR dX6_allow_13 flX6_15 rfl (by first | assumption | rfl) (by first | assumption | rfl) ?_
      refine pE_iload_n dX6_allow_16 rfl rfl ?_
      refine pE_iload_n dX6_allow_17 rfl rfl ?_
      refine pE_iastoreN dX6_allow_18 (by first | assumption | rfl) (by first | assumption | omega) (by omega) ?_
      refine pE_aload_n dX6_allow_19 rfl rfl ?_
      refine pE_getR dX6_allow_20 flX6_19 rfl (by first | assumption | rfl) (by first | assumption | rfl) ?_
      refine pE_iload_n dX6_allow_23 rfl rfl ?_
      refine pE_iload_n dX6_allow_24 rfl rfl ?_
      refine pE_iastoreN dX6_allow_25 (by first | assumption | rfl) (by first | assumption | omega) (by omega) ?_
      refine pE_vret dX6_allow_26 rfl rfl ?_
      exact hq
set_option maxHeartbeats 400000 in
set_option maxRecDepth 100000 in
theorem M_X6_canServe {l : Launch} {X : pX} {t g : Nat} {I : pHI} {J : pHJ} {Q : pQ} {b a s : Nat} {sv : Nat → Nat} (hs : I 55 a = nI (sv a)) (h2 : sv a < 256) (ha : a < 8) (hb : b < 8) (h3 : s < 256) (h1 : canS sv a b = true → bitN s b = 0 → Q (some (.int (nI 1))) I J (pR t g)) (h0 : ¬ (canS sv a b = true ∧ bitN s b = 0) → Q (some (.int (nI 0))) I J (pR t g)) : pM l X yX6_canServe mX6_canServe 0 [.ref 54, .int (nI b), .int (nI a), .int (nI s)] pK pK I J (pR t g) Q := by
  have hl1 := bitN_le (sv a) b
  have hl2 := bitN_le s b
  refine pM_of rfl (fun h => by cases h) rfl pKM (Nat.le_of_ble_eq_true rfl) ?_
  refine pE_aload_n dX6_canServe_0 rfl rfl ?_
  refine pE_getR dX6_canServe_1 flX6_15 rfl (by first | assumption | rfl) (by first | assumption | rfl) ?_
  refine pE_iload_n dX6_canServe_4 rfl rfl ?_
  refine pE_ialoadN dX6_canServe_5 (by first | assumption | rfl) (by first | assumption | omega) (by omega) ?_
  rw [hs]
  refine pE_iload_n dX6_canServe_6 rfl rfl ?_
  refine pE_ishr dX6_canServe_7 ?_
  refine pE_iconst (v := nI 1) dX6_canServe_8 rfl ?_
  refine pE_iand dX6_canServe_9 ?_
  rw [sh_bit h2 hb]
  refine pE_iconst (v := nI 1) dX6_canServe_10 rfl ?_
  refine pE_icmp_ne (tgt := 26) dX6_canServe_11 (by decide) (fun h11 => ?_) (fun h11 => ?_)
  · have g11 := nq_ne (by omega) (by omega) h11
    refine pE_iconst (v := nI 0) dX6_canServe_26 rfl ?_
    refine pE_zret dX6_canServe_27 rfl (by first | exact Or.inl nI_0 | exact Or.inr nI_1' | assumption) rfl ?_
    first | exact h1 (decide_eq_true g11) g19 | exact h0 (fun h => by have := h.2; omega) | exact h0 (fun h => g11 (of_decide_eq_true h.1))
  · have g11 := nq_eq (by omega) (by omega) h11
    refine pE_iload_n dX6_canServe_14 rfl rfl ?_
    refine pE_iload_n dX6_canServe_15 rfl rfl ?_
    refine pE_ishr dX6_canServe_16 ?_
    refine pE_iconst (v := nI 1) dX6_canServe_17 rfl ?_
    refine pE_iand dX6_canServe_18 ?_
    rw [sh_bit h3 hb]
    refine pE_if_ne (tgt := 26) dX6_canServe_19 (by decide) (fun h19 => ?_) (fun h19 => ?_)
    · have g19 := nq_ne0 (by omega) h19
      refine pE_iconst (v := nI 0) dX6_canServe_26 rfl ?_
      refine pE_zret dX6_canServe_27 rfl (by first | exact Or.inl nI_0 | exact Or.inr nI_1' | assumption) rfl ?_
      first | exact h1 (decide_eq_true g11) g19 | exact h0 (fun h => by have := h.2; omega) | exact h0 (fun h => g11 (of_decide_eq_true h.1))
    · have g19 := nq_eq0 (by omega) h19
      refine pE_iconst (v := nI 1) dX6_canServe_22 rfl ?_
      refine pE_goto (tgt := 27) dX6_canServe_23 (by decide) ?_
      refine pE_zret dX6_canServe_27 rfl (by first | exact Or.inl nI_0 | exact Or.inr nI_1' | assumption) rfl ?_
      first | exact h1 (decide_eq_true g11) g19 | exact h0 (fun h => by have := h.2; omega) | exact h0 (fun h => g11 (of_decide_eq_true h.1))
set_option maxHeartbeats 400000 in
set_option maxRecDepth 100000 in
theorem M_X6_valueWith {l : Launch} {X : pX} {t g : Nat} {I : pHI} {J : pHJ} {Q : pQ} {b a s v : Nat} {pr : Nat → Nat} (hp : I 56 a = nI (pr a)) (h2 : pr a ≤ 20) (ha : a < 8) (hb : b < 8) (h3 : s < 256) (hv : I 58 ((a + 1) * 256 + addB s b) = nI v) (hq : Q (some (.int (nI (1000 - pr a + v)))) I J (pR t g)) : pM l X yX6_valueWith mX6_valueWith 1 [.ref 54, .int (nI b), .int (nI a), .int (nI s)] pK pK I J (pR t g) Q := by
  have hab := add_256 h3 hb
  refine pM_of rfl (fun h => by cases h) rfl pKM (Nat.le_of_ble_eq_true rfl) ?_
  refine pE_sipush (v := nI 1000) dX6_valueWith_0 rfl ?_
  refine pE_aload_n dX6_valueWith_3 rfl rfl ?_
  refine pE_getR dX6_valueWith_4 flX6_19 rfl (by first | assumption | rfl) (by first | assumption | rfl) ?_
  refine pE_iload_n dX6_valueWith_7 rfl rfl ?_
  refine pE_ialoadN dX6_valueWith_8 (by first | assumption | rfl) (by first | assumption | omega) (by omega) ?_
  rw [hp]
  refine pE_isubN dX6_valueWith_9 (by omega) ?_
  refine pE_aload_n dX6_valueWith_10 rfl rfl ?_
  refine pE_getR dX6_valueWith_11 flX6_25 rfl (by first | assumption | rfl) (by first | assumption | rfl) ?_
  refine pE_iload_n dX6_valueWith_14 rfl rfl ?_
  refine pE_iconst (v := nI 1) dX6_valueWith_15 rfl ?_
  refine pE_iaddN dX6_valueWith_16 ?_
  refine pE_iload_n dX6_valueWith_17 rfl rfl ?_
  refine pE_iconst (v := nI 1) dX6_valueWith_18 rfl ?_
  refine pE_iload_n dX6_valueWith_19 rfl rfl ?_
  refine pE_ishl dX6_valueWith_20 ?_
  refine pE_ior dX6_valueWith_21 ?_
  rw [or_bit h3 hb]
  refine pE_callS (d' := 0) (as := [_, _]) dX6_valueWith_22 lkX6_37 (cwX6_placeOf _ _) svX6_placeOf rfl rfl (Nat.le_of_ble_eq_true rfl) (by decide) pKK ?_
  refine M_X6_placeOf hab ?_
  refine pE_ialoadN dX6_valueWith_25 (by first | assumption | rfl) (by first | assumption | omega) (by omega) ?_
  rw [hv]
  refine pE_iaddN dX6_valueWith_26 ?_
  refine pE_iret dX6_valueWith_27 rfl rfl ?_
  exact hq
set_option maxHeartbeats 400000 in
set_option maxRecDepth 100000 in
theorem L_X6_bestFrom {l : Launch} {X : pX} {t g : Nat} {I : pHI} {J : pHJ} {Q : pQ} {a s : Nat} {n : Nat} {sv pr : Nat → Nat} (hP : cP I n sv pr) (hr : rP n sv pr) (ha : a < n) (hs : s < 2 ^ n) (hps : popN s 8 ≤ a) (hT : cT I n sv pr (a + 1)) (hq : Q (some (.int (nI (vl (btN (canS sv) pr n a s))))) I J (pR t g)) : ∀ (fu j : Nat), n - j < fu → j ≤ n → pE l X mX6_bestFrom 2 pK 16 [some (.ref 54), some (.int (nI a)), some (.int (nI s)), some (.int (nI (vl (bsF (canS sv) pr (btN (canS sv) pr n (a + 1)) a s j)))), some (.int (nI j))] [] pK I J (pR t g) Q := by
  intro fu
  induction fu with
  | zero => intro j hn hj; exact absurd hn (Nat.not_lt_zero _)
  | succ fu ih =>
    intro j hn hj
    have hn8 := hr.1
    have hp2 := p2_le hn8
    have hpr : ∀ t, t < n → pr t ≤ 20 := fun t ht => (hr.2 t ht).2
    have hok := bsF_ok (C := canS sv) (hpr a ha) (bt_ok hpr hn8 (C := canS sv) (t := a + 1)) s j
    have hvl := vl_le hok
    have hcd : ∀ b, okP 9 (cdN pr (btN (canS sv) pr n (a + 1)) a s b) := fun b => cd_ok (hpr a ha) (bt_ok hpr hn8 _)
    have hcl := vl_le (hcd j)
    refine pE_iload dX6_bestFrom_16 rfl ?_
    refine pE_aload_n dX6_bestFrom_18 rfl rfl ?_
    refine pE_getI dX6_bestFrom_19 flX6_9 rfl (Or.inl rfl) (by first | assumption | rfl) ?_
    rw [hP.1]
    refine pE_icmp_ge (tgt := 55) dX6_bestFrom_22 (by decide) (fun h22 => ?_) (fun h22 => ?_)
    · have g22 := nq_le (by omega) (by omega) h22
      refine pE_iload_n dX6_bestFrom_55 rfl rfl ?_
      refine pE_iret dX6_bestFrom_56 rfl rfl ?_
      obtain rfl : j = n := by omega
      rw [bt_step _ _ _ ha] at hq
      exact hq
    · have g22 := nq_nle (by omega) (by omega) h22
      refine pE_aload_n dX6_bestFrom_25 rfl rfl ?_
      refine pE_iload dX6_bestFrom_26 rfl ?_
      refine pE_iload_n dX6_bestFrom_28 rfl rfl ?_
      refine pE_iload_n dX6_bestFrom_29 rfl rfl ?_
      refine pE_callV (d' := 0) (as := [_, _, _]) dX6_bestFrom_30 lkX6_52 (cwX6_canServe _ _) ivX6_canServe ⟨_, rfl, rfl⟩ (by first | assumption | rfl) rfl rfl (Nat.le_of_ble_eq_true rfl) (by decide) pKK ?_
      refine M_X6_canServe (hP.2 a ha).1 (hr.2 a ha).1 (by omega) (by omega) (by omega) (fun k1 k2 => ?_) (fun k => ?_)
      · refine pE_if_eq_f (tgt := 49) dX6_bestFrom_33 (by decide) nI_1n0 ?_
        refine pE_iload_n dX6_bestFrom_36 rfl rfl ?_
        refine pE_aload_n dX6_bestFrom_37 rfl rfl ?_
        refine pE_iload dX6_bestFrom_38 rfl ?_
        refine pE_iload_n dX6_bestFrom_40 rfl rfl ?_
        refine pE_iload_n dX6_bestFrom_41 rfl rfl ?_
        refine pE_callV (d' := 1) (as := [_, _, _]) dX6_bestFrom_42 lkX6_56 (cwX6_valueWith _ _) ivX6_valueWith ⟨_, rfl, rfl⟩ (by first | assumption | rfl) rfl rfl (Nat.le_of_ble_eq_true rfl) (by decide) pKK ?_
        refine M_X6_valueWith (hP.2 a ha).2 (hr.2 a ha).2 (by omega) (by omega) (by omega) (hT _ (add_lt hn8 hs (by omega)) (by rw [add_pop (by omega) (by omega) k2]; omega)) ?_
        rw [vl_cd (hpr a ha) (bt_ok hpr hn8 _)]
        refine pE_max dX6_bestFrom_45 lkX6_34 (by decide) (Nat.le_of_ble_eq_true rfl) ?_
        rw [nI_max _ _ (by omega) (by omega)]
        refine pE_istore_n (lc' := [_, _, _, some (.int _), _]) dX6_bestFrom_48 rfl (Nat.le_of_ble_eq_true rfl) rfl rfl ?_
        refine pE_iincN (c0 := 1) (lc' := [_, _, _, _, some (.int _)]) dX6_bestFrom_49 rfl rfl rfl rfl ?_
        refine pE_goto (tgt := 16) dX6_bestFrom_52 (by decide) ?_
        first
        | (refine pE_cg (ih (j + 1) (by omega) (by omega)) ?_ rfl rfl rfl rfl
           by_cases c : isMr (cdN pr (btN (canS sv) pr n (a + 1)) a s j) (bsF (canS sv) pr (btN (canS sv) pr n (a + 1)) a s j) = true
           · rw [bs_y k1 k2 c, vl_more (hcd j) hok c]
           · rw [bs_n (fun h => c h.2.2), vl_less (hcd j) hok c])
        | exact pE_cg (ih (j + 1) (by omega) (by omega)) (by rw [bs_n (fun h => k ⟨h.1, h.2.1⟩)]) rfl rfl rfl rfl
      · refine pE_if_eq_t (tgt := 49) dX6_bestFrom_33 (by decide) nI_0 ?_
        refine pE_iincN (c0 := 1) (lc' := [_, _, _, _, some (.int _)]) dX6_bestFrom_49 rfl rfl rfl rfl ?_
        refine pE_goto (tgt := 16) dX6_bestFrom_52 (by decide) ?_
        first
        | (refine pE_cg (ih (j + 1) (by omega) (by omega)) ?_ rfl rfl rfl rfl
           by_cases c : isMr (cdN pr (btN (canS sv) pr n (a + 1)) a s j) (bsF (canS sv) pr (btN (canS sv) pr n (a + 1)) a s j) = true
           · rw [bs_y k1 k2 c, vl_more (hcd j) hok c]
           · rw [bs_n (fun h => c h.2.2), vl_less (hcd j) hok c])
        | exact pE_cg (ih (j + 1) (by omega) (by omega)) (by rw [bs_n (fun h => k ⟨h.1, h.2.1⟩)]) rfl rfl rfl rfl
set_option maxHeartbeats 400000 in
set_option maxRecDepth 100000 in
theorem M_X6_bestFrom {l : Launch} {X : pX} {t g : Nat} {I : pHI} {J : pHJ} {Q : pQ} {a s : Nat} {n : Nat} {sv pr : Nat → Nat} (hP : cP I n sv pr) (hr : rP n sv pr) (ha : a < n) (hs : s < 2 ^ n) (hps : popN s 8 ≤ a) (hT : cT I n sv pr (a + 1)) (hq : Q (some (.int (nI (vl (btN (canS sv) pr n a s))))) I J (pR t g)) : pM l X yX6_bestFrom mX6_bestFrom 2 [.ref 54, .int (nI a), .int (nI s)] pK pK I J (pR t g) Q := by
  have hn8 := hr.1
  have hp2 := p2_le hn8
  have hpr : ∀ t, t < n → pr t ≤ 20 := fun t ht => (hr.2 t ht).2
  refine pM_of rfl (fun h => by cases h) rfl pKM (Nat.le_of_ble_eq_true rfl) ?_
  refine pE_aload_n dX6_bestFrom_0 rfl rfl ?_
  refine pE_getR dX6_bestFrom_1 flX6_25 rfl (by first | assumption | rfl) (by first | assumption | rfl) ?_
  refine pE_iload_n dX6_bestFrom_4 rfl rfl ?_
  refine pE_iconst (v := nI 1) dX6_bestFrom_5 rfl ?_
  refine pE_iaddN dX6_bestFrom_6 ?_
  refine pE_iload_n dX6_bestFrom_7 rfl rfl ?_
  refine pE_callS (d' := 0) (as := [_, _]) dX6_bestFrom_8 lkX6_37 (cwX6_placeOf _ _) svX6_placeOf rfl rfl (Nat.le_of_ble_eq_true rfl) (by decide) pKK ?_
  refine M_X6_placeOf (by omega) ?_
  refine pE_ialoadN dX6_bestFrom_11 (by first | assumption | rfl) (by first | assumption | omega) (by omega) ?_
  rw [hT s hs (by omega)]
  refine pE_istore_n (lc' := [_, _, _, some (.int _), _]) dX6_bestFrom_12 rfl (Nat.le_of_ble_eq_true rfl) rfl rfl ?_
  refine pE_iconst (v := nI 0) dX6_bestFrom_13 rfl ?_
  refine pE_istore (lc' := [_, _, _, _, some (.int _)]) dX6_bestFrom_14 (Nat.le_of_ble_eq_true rfl) rfl rfl ?_
  exact L_X6_bestFrom hP hr ha hs hps hT hq (n + 1) 0 (by omega) (by omega)
