set_option maxHeartbeats 400000 in
set_option maxRecDepth 100000 in
theorem M_X5_clear {l : Launch} {X : pX} {t g : Nat} {I : pHI} {J : pHJ} {Q : pQ}  (hq : Q none (pu I 45 1 (nI 0)) J (pR t g)) : pM l X yX5_clear mX5_clear 0 [.ref 45] pK pK I J (pR t g) Q := by
  refine pM_of rfl (fun h => by cases h) rfl pKM (Nat.le_of_ble_eq_true rfl) ?_
  refine pE_aload_n dX5_clear_0 rfl rfl ?_
  refine pE_iconst (v := nI 0) dX5_clear_1 rfl ?_
  refine pE_putI dX5_clear_2 flX5_15 ftX5 fiX5_1 rfl rfl (by first | assumption | rfl) ?_
  refine pE_vret dX5_clear_5 rfl rfl ?_
  exact hq
set_option maxHeartbeats 400000 in
set_option maxRecDepth 100000 in
theorem M_X5_lay {l : Launch} {X : pX} {t g : Nat} {I : pHI} {J : pHJ} {Q : pQ} {n : Nat} {x : Int32} {L : Nat → Int32} (hL : cL 45 1 46 I n L) (hn : n < 8) (hq : ∀ I1, (∀ c k, c ≠ 45 → c ≠ 46 → I1 c k = I c k) → cL 45 1 46 I1 (n + 1) (fun i => if i = n then x else L i) → Q none I1 J (pR t g)) : pM l X yX5_lay mX5_lay 0 [.ref 45, .int x] pK pK I J (pR t g) Q := by
  obtain ⟨l1, l2, l3⟩ := hL
  refine pM_of rfl (fun h => by cases h) rfl pKM (Nat.le_of_ble_eq_true rfl) ?_
  refine pE_aload_n dX5_lay_0 rfl rfl ?_
  refine pE_getI dX5_lay_1 flX5_15 rfl (Or.inl rfl) (by first | assumption | rfl) ?_
  rw [l1]
  refine pE_if_lt (tgt := 39) dX5_lay_4 (by decide) (fun h4 => ?_) (fun h4 => ?_)
  · exact absurd h4 (nI_pos (by omega))
  · refine pE_aload_n dX5_lay_7 rfl rfl ?_
    refine pE_getI dX5_lay_8 flX5_15 rfl (Or.inl rfl) (by first | assumption | rfl) ?_
    rw [l1]
    refine pE_aload_n dX5_lay_11 rfl rfl ?_
    refine pE_getR dX5_lay_12 flX5_9 rfl (by first | assumption | rfl) (by first | assumption | rfl) ?_
    refine pE_alenN dX5_lay_15 (by first | assumption | rfl) (by decide) ?_
    refine pE_icmp_ge (tgt := 39) dX5_lay_16 (by decide) (fun h16 => ?_) (fun h16 => ?_)
    · have g16 := nq_le (by omega) (by omega) h16
      omega
    · have g16 := nq_nle (by omega) (by omega) h16
      refine pE_aload_n dX5_lay_19 rfl rfl ?_
      refine pE_getR dX5_lay_20 flX5_9 rfl (by first | assumption | rfl) (by first | assumption | rfl) ?_
      refine pE_aload_n dX5_lay_23 rfl rfl ?_
      refine pE_getI dX5_lay_24 flX5_15 rfl (Or.inl rfl) (by first | assumption | rfl) ?_
      rw [l1]
      refine pE_iload_n dX5_lay_27 rfl rfl ?_
      refine pE_iastoreN dX5_lay_28 (by first | assumption | rfl) (by first | assumption | omega) (by omega) ?_
      refine pE_aload_n dX5_lay_29 rfl rfl ?_
      refine pE_dupR dX5_lay_30 ?_
      refine pE_getI dX5_lay_31 flX5_15 rfl (Or.inl rfl) (by first | assumption | rfl) ?_
      rw [(show pu I 46 n x 45 1 = nI n by rw [pu_ne _ _ _ (by decide)]; exact l1)]
      refine pE_iconst (v := nI 1) dX5_lay_34 rfl ?_
      refine pE_iaddN dX5_lay_35 ?_
      refine pE_putI dX5_lay_36 flX5_15 ftX5 fiX5_1 rfl rfl (by first | assumption | rfl) ?_
      refine pE_vret dX5_lay_39 rfl rfl ?_
      refine hq _ (fun c k a b => by rw [pu_ne _ _ _ a, pu_ne _ _ _ b]) ⟨by rw [pu_at]; simp, by omega, fun i hi => ?_⟩
      rw [pu_ne _ _ _ (by decide), pu_at]
      by_cases e : i = n
      · subst e; simp
      · simp only [e, and_false, if_false]; exact l3 i (by omega)
set_option maxHeartbeats 400000 in
set_option maxRecDepth 100000 in
theorem L_X6_layTo {l : Launch} {X : pX} {t g : Nat} {I : pHI} {J : pHJ} {Q : pQ} {n : Nat} {L : Nat → Int32} (hn : n ≤ 8) (h0 : I 54 0 = nI n) (hL : ∀ i, i < n → I 57 i = L i) (hq : ∀ I2, (∀ c k, c ≠ 45 → c ≠ 46 → I2 c k = I c k) → cL 45 1 46 I2 n L → Q none I2 J (pR t g)) : ∀ (fu : Nat) (j : Nat) (I1 : pHI), n - j < fu → (j ≤ n) → (∀ c k, c ≠ 45 → c ≠ 46 → I1 c k = I c k) → (cL 45 1 46 I1 j L) → pE l X mX6_layTo 1 pK 6 [some (.ref 54), some (.ref 45), some (.int (nI j))] [] pK I1 J (pR t g) Q := by
  intro fu
  induction fu with
  | zero => intro j I1 hn; exact absurd hn (Nat.not_lt_zero _)
  | succ fu ih =>
    intro j I1 hn hj hf hv
    refine pE_iload_n dX6_layTo_6 rfl rfl ?_
    refine pE_aload_n dX6_layTo_7 rfl rfl ?_
    refine pE_getI dX6_layTo_8 flX6_9 rfl (Or.inl rfl) (by first | assumption | rfl) ?_
    rw [(hf 54 0 (by decide) (by decide)).trans h0]
    refine pE_icmp_ge (tgt := 30) dX6_layTo_11 (by decide) (fun h11 => ?_) (fun h11 => ?_)
    · have g11 := nq_le (by omega) (by omega) h11
      refine pE_vret dX6_layTo_30 rfl rfl ?_
      obtain rfl : j = n := by omega
      exact hq _ hf hv
    · have g11 := nq_nle (by omega) (by omega) h11
      refine pE_aload_n dX6_layTo_14 rfl rfl ?_
      refine pE_aload_n dX6_layTo_15 rfl rfl ?_
      refine pE_getR dX6_layTo_16 flX6_22 rfl (by first | assumption | rfl) (by first | assumption | rfl) ?_
      refine pE_iload_n dX6_layTo_19 rfl rfl ?_
      refine pE_ialoadN dX6_layTo_20 (by first | assumption | rfl) (by first | assumption | omega) (by omega) ?_
      rw [hf 57 j (by decide) (by decide), hL j (by omega)]
      refine pE_callV (d' := 0) (as := [_]) dX6_layTo_21 lkX6_65 (cwX5_lay _ _) ivX5_lay ⟨_, rfl, rfl⟩ (by first | assumption | rfl) rfl rfl (Nat.le_of_ble_eq_true rfl) (by decide) pKK ?_
      refine M_X5_lay hv (by omega) (fun I2 f2 h2 => ?_)
      refine pE_iincN (c0 := 1) (lc' := [_, _, some (.int _)]) dX6_layTo_24 rfl rfl rfl rfl ?_
      refine pE_goto (tgt := 6) dX6_layTo_27 (by decide) ?_
      refine ih (j + 1) I2 (by omega) (by omega) (fun c k a b => (f2 c k a b).trans (hf c k a b)) ⟨h2.1, h2.2.1, fun i hi => ?_⟩
      rw [h2.2.2 i hi]
      show (if i = j then L j else L i) = L i
      split
      · rename_i e; rw [e]
      · rfl
set_option maxHeartbeats 400000 in
set_option maxRecDepth 100000 in
theorem M_X6_layTo {l : Launch} {X : pX} {t g : Nat} {I : pHI} {J : pHJ} {Q : pQ} {n : Nat} {L : Nat → Int32} (hn : n ≤ 8) (h0 : I 54 0 = nI n) (hL : ∀ i, i < n → I 57 i = L i) (hq : ∀ I2, (∀ c k, c ≠ 45 → c ≠ 46 → I2 c k = I c k) → cL 45 1 46 I2 n L → Q none I2 J (pR t g)) : pM l X yX6_layTo mX6_layTo 1 [.ref 54, .ref 45] pK pK I J (pR t g) Q := by
  refine pM_of rfl (fun h => by cases h) rfl pKM (Nat.le_of_ble_eq_true rfl) ?_
  refine pE_aload_n dX6_layTo_0 rfl rfl ?_
  refine pE_callV (d' := 0) (as := []) dX6_layTo_1 lkX6_60 (cwX5_clear _ _) ivX5_clear ⟨_, rfl, rfl⟩ (by first | assumption | rfl) rfl rfl (Nat.le_of_ble_eq_true rfl) (by decide) pKK ?_
  refine M_X5_clear ?_
  refine pE_iconst (v := nI 0) dX6_layTo_4 rfl ?_
  refine pE_istore_n (lc' := [_, _, some (.int _)]) dX6_layTo_5 rfl (Nat.le_of_ble_eq_true rfl) rfl rfl ?_
  exact L_X6_layTo hn h0 hL hq (n + 1) 0 _ (by omega) (by omega) (fun c k a b => by rw [pu_ne _ _ _ a]) ⟨by rw [pu_at]; simp, by omega, fun i hi => by omega⟩
set_option maxHeartbeats 400000 in
set_option maxRecDepth 100000 in
theorem L_X6_pairs {l : Launch} {X : pX} {t g : Nat} {I : pHI} {J : pHJ} {Q : pQ} {n : Nat} {o : Nat → Option Nat} (hn : n ≤ 8) (h0 : I 54 0 = nI n) (hc : ∀ i, i < n → I 57 i = oI (o i)) (hb : ∀ i b, i < n → o i = some b → b < 8) (hq : Q (some (.int (nI (cntP (fun i => isSm (o i)) n)))) I J (pR t g)) : ∀ (n1 j : Nat), n - j < n1 → j ≤ n → pE l X mX6_pairs 0 pK 4 [some (.ref 54), some (.int (nI (cntP (fun i => isSm (o i)) j))), some (.int (nI j))] [] pK I J (pR t g) Q := by
  intro n1
  induction n1 with
  | zero => intro j hn1; exact absurd hn1 (Nat.not_lt_zero _)
  | succ n1 ih =>
    intro j hn1 hj
    cases e : o j with
    | none =>
      refine pE_iload_n dX6_pairs_4 rfl rfl ?_
      refine pE_aload_n dX6_pairs_5 rfl rfl ?_
      refine pE_getI dX6_pairs_6 flX6_9 rfl (Or.inl rfl) (by first | assumption | rfl) ?_
      rw [h0]
      refine pE_icmp_ge (tgt := 31) dX6_pairs_9 (by decide) (fun h9 => ?_) (fun h9 => ?_)
      · have g9 := nq_le (by omega) (by omega) h9
        refine pE_iload_n dX6_pairs_31 rfl rfl ?_
        refine pE_iret dX6_pairs_32 rfl rfl ?_
        obtain rfl : j = n := by omega
        exact hq
      · have g9 := nq_nle (by omega) (by omega) h9
        refine pE_aload_n dX6_pairs_12 rfl rfl ?_
        refine pE_getR dX6_pairs_13 flX6_22 rfl (by first | assumption | rfl) (by first | assumption | rfl) ?_
        refine pE_iload_n dX6_pairs_16 rfl rfl ?_
        refine pE_ialoadN dX6_pairs_17 (by first | assumption | rfl) (by first | assumption | omega) (by omega) ?_
        rw [hc j (by omega), e, show oI none = (-1 : Int32) from rfl]
        refine pE_iconst (v := -1) dX6_pairs_18 rfl ?_
        refine pE_icmp_eq (tgt := 25) dX6_pairs_19 (by decide) (fun h19 => ?_) (fun h19 => ?_)
        · refine pE_iincN (c0 := 1) (lc' := [_, _, some (.int _)]) dX6_pairs_25 rfl rfl rfl rfl ?_
          refine pE_goto (tgt := 4) dX6_pairs_28 (by decide) ?_
          refine pE_cg (ih (j + 1) (by omega) (by omega)) (by
              simp [cntP, sumN, isSm, e]) rfl rfl rfl rfl
        · exact absurd rfl h19
    | some b =>
      refine pE_iload_n dX6_pairs_4 rfl rfl ?_
      refine pE_aload_n dX6_pairs_5 rfl rfl ?_
      refine pE_getI dX6_pairs_6 flX6_9 rfl (Or.inl rfl) (by first | assumption | rfl) ?_
      rw [h0]
      refine pE_icmp_ge (tgt := 31) dX6_pairs_9 (by decide) (fun h9 => ?_) (fun h9 => ?_)
      · have g9 := nq_le (by omega) (by omega) h9
        refine pE_iload_n dX6_pairs_31 rfl rfl ?_
        refine pE_iret dX6_pairs_32 rfl rfl ?_
        obtain rfl : j = n := by omega
        exact hq
      · have g9 := nq_nle (by omega) (by omega) h9
        refine pE_aload_n dX6_pairs_12 rfl rfl ?_
        refine pE_getR dX6_pairs_13 flX6_22 rfl (by first | assumption | rfl) (by first | assumption | rfl) ?_
        refine pE_iload_n dX6_pairs_16 rfl rfl ?_
        refine pE_ialoadN dX6_pairs_17 (by first | assumption | rfl) (by first | assumption | omega) (by omega) ?_
        rw [hc j (by omega), e, show oI (some b) = nI b from rfl]
        refine pE_iconst (v := -1) dX6_pairs_18 rfl ?_
        refine pE_icmp_eq (tgt := 25) dX6_pairs_19 (by decide) (fun h19 => ?_) (fun h19 => ?_)
        · exact absurd h19 (nI_m1n (by have := hb j b (by omega) e; omega))
        · refine pE_iincN (c0 := 1) (lc' := [_, some (.int _), _]) dX6_pairs_22 rfl rfl rfl rfl ?_
          refine pE_iincN (c0 := 1) (lc' := [_, _, some (.int _)]) dX6_pairs_25 rfl rfl rfl rfl ?_
          refine pE_goto (tgt := 4) dX6_pairs_28 (by decide) ?_
          refine pE_cg (ih (j + 1) (by omega) (by omega)) (by
              simp [cntP, sumN, isSm, e]) rfl rfl rfl rfl
set_option maxHeartbeats 400000 in
set_option maxRecDepth 100000 in
theorem M_X6_pairs {l : Launch} {X : pX} {t g : Nat} {I : pHI} {J : pHJ} {Q : pQ} {n : Nat} {o : Nat → Option Nat} (hn : n ≤ 8) (h0 : I 54 0 = nI n) (hc : ∀ i, i < n → I 57 i = oI (o i)) (hb : ∀ i b, i < n → o i = some b → b < 8) (hq : Q (some (.int (nI (cntP (fun i => isSm (o i)) n)))) I J (pR t g)) : pM l X yX6_pairs mX6_pairs 0 [.ref 54] pK pK I J (pR t g) Q := by
  refine pM_of rfl (fun h => by cases h) rfl pKM (Nat.le_of_ble_eq_true rfl) ?_
  refine pE_iconst (v := nI 0) dX6_pairs_0 rfl ?_
  refine pE_istore_n (lc' := [_, some (.int _), _]) dX6_pairs_1 rfl (Nat.le_of_ble_eq_true rfl) rfl rfl ?_
  refine pE_iconst (v := nI 0) dX6_pairs_2 rfl ?_
  refine pE_istore_n (lc' := [_, _, some (.int _)]) dX6_pairs_3 rfl (Nat.le_of_ble_eq_true rfl) rfl rfl ?_
  exact L_X6_pairs hn h0 hc hb hq (n + 1) 0 (by omega) (by omega)
set_option maxHeartbeats 400000 in
set_option maxRecDepth 100000 in
theorem L_X6_storeys {l : Launch} {X : pX} {t g : Nat} {I : pHI} {J : pHJ} {Q : pQ} {n : Nat} {o : Nat → Option Nat} {pr : Nat → Nat} (hn : n ≤ 8) (h0 : I 54 0 = nI n) (hc : ∀ i, i < n → I 57 i = oI (o i)) (hb : ∀ i b, i < n → o i = some b → b < 8) (hpr : ∀ i, i < n → I 56 i = nI (pr i)) (hq : Q (some (.int (nI (sumN (fun i => if isSm (o i) = true then pr i else 0) n)))) I J (pR t g)) : ∀ (n1 j : Nat), n - j < n1 → j ≤ n → pE l X mX6_storeys 0 pK 4 [some (.ref 54), some (.int (nI (sumN (fun i => if isSm (o i) = true then pr i else 0) j))), some (.int (nI j))] [] pK I J (pR t g) Q := by
  intro n1
  induction n1 with
  | zero => intro j hn1; exact absurd hn1 (Nat.not_lt_zero _)
  | succ n1 ih =>
    intro j hn1 hj
    cases e : o j with
    | none =>
      refine pE_iload_n dX6_storeys_4 rfl rfl ?_
      refine pE_aload_n dX6_storeys_5 rfl rfl ?_
      refine pE_getI dX6_storeys_6 flX6_9 rfl (Or.inl rfl) (by first | assumption | rfl) ?_
      rw [h0]
      refine pE_icmp_ge (tgt := 37) dX6_storeys_9 (by decide) (fun h9 => ?_) (fun h9 => ?_)
      · have g9 := nq_le (by omega) (by omega) h9
        refine pE_iload_n dX6_storeys_37 rfl rfl ?_
        refine pE_iret dX6_storeys_38 rfl rfl ?_
        obtain rfl : j = n := by omega
        exact hq
      · have g9 := nq_nle (by omega) (by omega) h9
        refine pE_aload_n dX6_storeys_12 rfl rfl ?_
        refine pE_getR dX6_storeys_13 flX6_22 rfl (by first | assumption | rfl) (by first | assumption | rfl) ?_
        refine pE_iload_n dX6_storeys_16 rfl rfl ?_
        refine pE_ialoadN dX6_storeys_17 (by first | assumption | rfl) (by first | assumption | omega) (by omega) ?_
        rw [hc j (by omega), e, show oI none = (-1 : Int32) from rfl]
        refine pE_iconst (v := -1) dX6_storeys_18 rfl ?_
        refine pE_icmp_eq (tgt := 31) dX6_storeys_19 (by decide) (fun h19 => ?_) (fun h19 => ?_)
        · refine pE_iincN (c0 := 1) (lc' := [_, _, some (.int _)]) dX6_storeys_31 rfl rfl rfl rfl ?_
          refine pE_goto (tgt := 4) dX6_storeys_34 (by decide) ?_
          refine pE_cg (ih (j + 1) (by omega) (by omega)) (by
              simp [cntP, sumN, isSm, e]) rfl rfl rfl rfl
        · exact absurd rfl h19
    | some b =>
      refine pE_iload_n dX6_storeys_4 rfl rfl ?_
      refine pE_aload_n dX6_storeys_5 rfl rfl ?_
      refine pE_getI dX6_storeys_6 flX6_9 rfl (Or.inl rfl) (by first | assumption | rfl) ?_
      rw [h0]
      refine pE_icmp_ge (tgt := 37) dX6_storeys_9 (by decide) (fun h9 => ?_) (fun h9 => ?_)
      · have g9 := nq_le (by omega) (by omega) h9
        refine pE_iload_n dX6_storeys_37 rfl rfl ?_
        refine pE_iret dX6_storeys_38 rfl rfl ?_
        obtain rfl : j = n := by omega
        exact hq
      · have g9 := nq_nle (by omega) (by omega) h9
        refine pE_aload_n dX6_storeys_12 rfl rfl ?_
        refine pE_getR dX6_storeys_13 flX6_22 rfl (by first | assumption | rfl) (by first | assumption | rfl) ?_
        refine pE_iload_n dX6_storeys_16 rfl rfl ?_
        refine pE_ialoadN dX6_storeys_17 (by first | assumption | rfl) (by first | assumption | omega) (by omega) ?_
        rw [hc j (by omega), e, show oI (some b) = nI b from rfl]
        refine pE_iconst (v := -1) dX6_storeys_18 rfl ?_
        refine pE_icmp_eq (tgt := 31) dX6_storeys_19 (by decide) (fun h19 => ?_) (fun h19 => ?_)
        · exact absurd h19 (nI_m1n (by have := hb j b (by omega) e; omega))
        · refine pE_iload_n dX6_storeys_22 rfl rfl ?_
          refine pE_aload_n dX6_storeys_23 rfl rfl ?_
          refine pE_getR dX6_storeys_24 flX6_19 rfl (by first | assumption | rfl) (by first | assumption | rfl) ?_
          refine pE_iload_n dX6_storeys_27 rfl rfl ?_
          refine pE_ialoadN dX6_storeys_28 (by first | assumption | rfl) (by first | assumption | omega) (by omega) ?_
          rw [hpr j (by omega)]
          refine pE_iaddN dX6_storeys_29 ?_
          refine pE_istore_n (lc' := [_, some (.int _), _]) dX6_storeys_30 rfl (Nat.le_of_ble_eq_true rfl) rfl rfl ?_
          refine pE_iincN (c0 := 1) (lc' := [_, _, some (.int _)]) dX6_storeys_31 rfl rfl rfl rfl ?_
          refine pE_goto (tgt := 4) dX6_storeys_34 (by decide) ?_
          refine pE_cg (ih (j + 1) (by omega) (by omega)) (by
              simp [cntP, sumN, isSm, e]) rfl rfl rfl rfl
set_option maxHeartbeats 400000 in
set_option maxRecDepth 100000 in
theorem M_X6_storeys {l : Launch} {X : pX} {t g : Nat} {I : pHI} {J : pHJ} {Q : pQ} {n : Nat} {o : Nat → Option Nat} {pr : Nat → Nat} (hn : n ≤ 8) (h0 : I 54 0 = nI n) (hc : ∀ i, i < n → I 57 i = oI (o i)) (hb : ∀ i b, i < n → o i = some b → b < 8) (hpr : ∀ i, i < n → I 56 i = nI (pr i)) (hq : Q (some (.int (nI (sumN (fun i => if isSm (o i) = true then pr i else 0) n)))) I J (pR t g)) : pM l X yX6_storeys mX6_storeys 0 [.ref 54] pK pK I J (pR t g) Q := by
  refine pM_of rfl (fun h => by cases h) rfl pKM (Nat.le_of_ble_eq_true rfl) ?_
  refine pE_iconst (v := nI 0) dX6_storeys_0 rfl ?_
  refine pE_istore_n (lc' := [_, some (.int _), _]) dX6_storeys_1 rfl (Nat.le_of_ble_eq_true rfl) rfl rfl ?_
  refine pE_iconst (v := nI 0) dX6_storeys_2 rfl ?_
  refine pE_istore_n (lc' := [_, _, some (.int _)]) dX6_storeys_3 rfl (Nat.le_of_ble_eq_true rfl) rfl rfl ?_
  exact L_X6_storeys hn h0 hc hb hpr hq (n + 1) 0 (by omega) (by omega)
