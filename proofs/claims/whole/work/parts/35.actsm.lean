-- needs: 33.rel9
set_option maxHeartbeats 4000000 in
set_option maxRecDepth 100000 in
theorem L_X12_act2 {l : Launch} {X : pX} {t g : Nat} {I : pHI} {J : pHJ} {Q : pQ} {d : Nat} (hd : I 67 48 = nI d) (h40 : d < 40) (hq : Q none (pu (pu (pz I 92 (fun q => if 28 * d ≤ q ∧ q < 28 * d + 28 then I 90 (q - 28 * d) else I 92 q)) 67 48 (nI (d + 1))) 67 49 (nI 0)) J (pR t g)) : ∀ (n j : Nat), 28 - j < n → j ≤ 28 → pE l X mX12_act 0 pK 51 [some (.ref 67), some (.int (nI j))] [] pK (pz I 92 (fun q => if 28 * d ≤ q ∧ q < 28 * d + j then I 90 (q - 28 * d) else I 92 q)) J (pR t g) Q := by
  intro n
  induction n with
  | zero => intro j hn hj; exact absurd hn (Nat.not_lt_zero _)
  | succ n ih =>
    intro j hn hj
    refine pE_iload_n dX12_act_51 rfl rfl ?_
    refine pE_bipush (v := nI 28) dX12_act_52 rfl ?_
    refine pE_icmp_ge (tgt := 83) dX12_act_54 (by decide) (fun h54 => ?_) (fun h54 => ?_)
    · have g54 := nq_le (by omega) (by omega) h54
      refine pE_aload_n dX12_act_83 rfl rfl ?_
      refine pE_dupR dX12_act_84 ?_
      refine pE_getI dX12_act_85 flX12_356 rfl (Or.inl rfl) (by first | assumption | rfl) ?_
      rw [pz_ne _ _ (by decide), hd]
      refine pE_iconst (v := nI 1) dX12_act_88 rfl ?_
      refine pE_iaddN dX12_act_89 ?_
      refine pE_putI dX12_act_90 flX12_356 ftX12 fiX12_48 rfl rfl (by first | assumption | rfl) ?_
      refine pE_aload_n dX12_act_93 rfl rfl ?_
      refine pE_iconst (v := nI 0) dX12_act_94 rfl ?_
      refine pE_putI dX12_act_95 flX12_359 ftX12 fiX12_49 rfl rfl (by first | assumption | rfl) ?_
      refine pE_vret dX12_act_98 rfl rfl ?_
      obtain rfl : j = 28 := by omega
      exact hq
    · have g54 := nq_nle (by omega) (by omega) h54
      refine pE_aload_n dX12_act_57 rfl rfl ?_
      refine pE_getR dX12_act_58 flX12_91 rfl (by first | assumption | rfl) (by first | assumption | rfl) ?_
      refine pE_bipush (v := nI 28) dX12_act_61 rfl ?_
      refine pE_aload_n dX12_act_63 rfl rfl ?_
      refine pE_getI dX12_act_64 flX12_356 rfl (Or.inl rfl) (by first | assumption | rfl) ?_
      rw [pz_ne _ _ (by decide), hd]
      refine pE_imulN dX12_act_67 ?_
      refine pE_iload_n dX12_act_68 rfl rfl ?_
      refine pE_iaddN dX12_act_69 ?_
      refine pE_aload_n dX12_act_70 rfl rfl ?_
      refine pE_getR dX12_act_71 flX12_85 rfl (by first | assumption | rfl) (by first | assumption | rfl) ?_
      refine pE_iload_n dX12_act_74 rfl rfl ?_
      refine pE_ialoadN dX12_act_75 (by first | assumption | rfl) (by first | assumption | omega) (by omega) ?_
      refine pE_iastoreN dX12_act_76 (by first | assumption | rfl) (by first | assumption | omega) (by omega) ?_
      refine pE_iincN (c0 := 1) (lc' := [_, some (.int _)]) dX12_act_77 rfl rfl rfl rfl ?_
      refine pE_goto (tgt := 51) dX12_act_80 (by decide) ?_
      refine pE_cg (ih (j + 1) (by omega) (by omega)) rfl rfl (lp_pz (fun q => ?_)) rfl rfl
      rw [pz_ne _ _ (by decide)]
      by_cases e : q = 28 * d + j
      · subst e; rw [if_pos rfl, if_pos (by omega), show 28 * d + j - 28 * d = j by omega]
      · rw [if_neg e]
        by_cases e2 : 28 * d ≤ q ∧ q < 28 * d + j
        · rw [if_pos e2, if_pos (by omega)]
        · rw [if_neg e2, if_neg (by omega)]
set_option maxHeartbeats 4000000 in
set_option maxRecDepth 100000 in
theorem L_X12_act1 {l : Launch} {X : pX} {t g : Nat} {I : pHI} {J : pHJ} {Q : pQ} {d : Nat} (hd : I 67 48 = nI 40) (hk : pE l X mX12_act 0 pK 49 [some (.ref 67), some (.int (nI 1092))] [] pK (pu (pz I 92 (fun q => if q < 1092 then I 92 (28 + q) else I 92 q)) 67 48 (nI 39)) J (pR t g) Q) : ∀ (n j : Nat), 1092 - j < n → j ≤ 1092 → pE l X mX12_act 0 pK 11 [some (.ref 67), some (.int (nI j))] [] pK (pz I 92 (fun q => if q < j then I 92 (28 + q) else I 92 q)) J (pR t g) Q := by
  intro n
  induction n with
  | zero => intro j hn hj; exact absurd hn (Nat.not_lt_zero _)
  | succ n ih =>
    intro j hn hj
    refine pE_iload_n dX12_act_11 rfl rfl ?_
    refine pE_sipush (v := nI 1092) dX12_act_12 rfl ?_
    refine pE_icmp_ge (tgt := 39) dX12_act_15 (by decide) (fun h15 => ?_) (fun h15 => ?_)
    · have g15 := nq_le (by omega) (by omega) h15
      refine pE_aload_n dX12_act_39 rfl rfl ?_
      refine pE_dupR dX12_act_40 ?_
      refine pE_getI dX12_act_41 flX12_356 rfl (Or.inl rfl) (by first | assumption | rfl) ?_
      rw [pz_ne _ _ (by decide), hd]
      refine pE_iconst (v := nI 1) dX12_act_44 rfl ?_
      refine pE_isubN dX12_act_45 (by omega) ?_
      refine pE_putI dX12_act_46 flX12_356 ftX12 fiX12_48 rfl rfl (by first | assumption | rfl) ?_
      obtain rfl : j = 1092 := by omega
      exact hk
    · have g15 := nq_nle (by omega) (by omega) h15
      refine pE_aload_n dX12_act_18 rfl rfl ?_
      refine pE_getR dX12_act_19 flX12_91 rfl (by first | assumption | rfl) (by first | assumption | rfl) ?_
      refine pE_iload_n dX12_act_22 rfl rfl ?_
      refine pE_aload_n dX12_act_23 rfl rfl ?_
      refine pE_getR dX12_act_24 flX12_91 rfl (by first | assumption | rfl) (by first | assumption | rfl) ?_
      refine pE_bipush (v := nI 28) dX12_act_27 rfl ?_
      refine pE_iload_n dX12_act_29 rfl rfl ?_
      refine pE_iaddN dX12_act_30 ?_
      refine pE_ialoadN dX12_act_31 (by first | assumption | rfl) (by first | assumption | omega) (by omega) ?_
      rw [pz_eq, if_neg (by omega)]
      refine pE_iastoreN dX12_act_32 (by first | assumption | rfl) (by first | assumption | omega) (by omega) ?_
      refine pE_iincN (c0 := 1) (lc' := [_, some (.int _)]) dX12_act_33 rfl rfl rfl rfl ?_
      refine pE_goto (tgt := 11) dX12_act_36 (by decide) ?_
      exact pE_cg (ih (j + 1) (by omega) (by omega)) rfl rfl (lp_fill (a := fun q => I 92 (28 + q)) (b := I 92) rfl) rfl rfl
set_option maxHeartbeats 4000000 in
set_option maxRecDepth 100000 in
theorem M_X12_act {l : Launch} {X : pX} {t g : Nat} {I : pHI} {J : pHJ} {Q : pQ} {d u : Nat} {G : Nat → pN} {T : pN} (hK : mK I d u G) (hS : mS 90 (G d) I) (hq : ∀ I1, sM I I1 → (∀ k, I1 90 k = I 90 k) → (∀ k, I1 91 k = I 91 k) → mK I1 (min (d + 1) 40) 0 (actG d G T) → Q none I1 J (pR t g)) : pM l X yX12_act mX12_act 0 [.ref 67] pK pK I J (pR t g) Q := by
  obtain ⟨k1, k2, k3, k4, k5⟩ := hK
  refine pM_of rfl (fun h => by cases h) rfl pKM (Nat.le_of_ble_eq_true rfl) ?_
  refine pE_aload_n dX12_act_0 rfl rfl ?_
  refine pE_getI dX12_act_1 flX12_356 rfl (Or.inl rfl) (by first | assumption | rfl) ?_
  rw [k1]
  refine pE_bipush (v := nI 40) dX12_act_4 rfl ?_
  refine pE_icmp_ne (tgt := 49) dX12_act_6 (by decide) (fun h6 => ?_) (fun h6 => ?_)
  · have g6 := nq_ne (by omega) (by omega) h6
    refine pE_iconst (v := nI 0) dX12_act_49 rfl ?_
    refine pE_istore_n (lc' := [_, some (.int _)]) dX12_act_50 rfl (Nat.le_of_ble_eq_true rfl) rfl rfl ?_
    refine pE_cg (L_X12_act2 (d := d) (I := I) k1 (by omega) ?_ 29 0 (by omega) (by omega)) rfl rfl ?_ rfl rfl
    · refine hq _ (((sM.rf.pz (by omega)).pu (by omega)).pu (by omega)) (fun k => ?_) (fun k => ?_) ⟨?_, ?_, by omega, fun i hi q hq' => ?_, fun i h1 h2 => by omega⟩
      · rw [pu_ne _ _ _ (by decide), pu_ne _ _ _ (by decide), pz_ne _ _ (by decide)]
      · rw [pu_ne _ _ _ (by decide), pu_ne _ _ _ (by decide), pz_ne _ _ (by decide)]
      · rw [show min (d + 1) 40 = d + 1 by omega]; simp [pu_at]
      · simp [pu_at]
      · rw [pu_ne _ _ _ (by decide), pu_ne _ _ _ (by decide), pz_eq]
        have e : i ≠ min (d + 1) 40 := by omega
        simp only [actG]
        rw [if_neg e, if_pos (by omega : d < 40)]
        by_cases e2 : i = d
        · subst e2
          rw [if_pos (by omega), show 28 * i + q - 28 * i = q by omega]
          exact hS q hq'
        · rw [if_neg (by omega)]
          exact k4 i (by omega) q hq'
    · symm
      refine (congrArg (pz _ 92) (funext fun q => ?_)).trans (pz_id _ 92)
      rw [if_neg (by omega)]
  · have g6 := nq_eq (by omega) (by omega) h6
    refine pE_iconst (v := nI 0) dX12_act_9 rfl ?_
    refine pE_istore_n (lc' := [_, some (.int _)]) dX12_act_10 rfl (Nat.le_of_ble_eq_true rfl) rfl rfl ?_
    obtain rfl : d = 40 := g6
    refine pE_cg (L_X12_act1 (d := 0) k1 ?_ 1093 0 (by omega) (by omega)) rfl rfl (lp_fill0 I 92 (fun q => I 92 (28 + q))) rfl rfl
    refine pE_iconst (v := nI 0) dX12_act_49 rfl ?_
    refine pE_istore_n (lc' := [_, some (.int _)]) dX12_act_50 rfl (Nat.le_of_ble_eq_true rfl) rfl rfl ?_
    refine pE_cg (L_X12_act2 (d := 39) (I := pu (pz I 92 (fun q => if q < 1092 then I 92 (28 + q) else I 92 q)) 67 48 (nI 39)) (by simp [pu_at]) (by omega) ?_ 29 0 (by omega) (by omega)) rfl rfl ?_ rfl rfl
    · refine hq _ (((((sM.rf.pz (by omega)).pu (by omega)).pz (by omega)).pu (by omega)).pu (by omega)) (fun k => ?_) (fun k => ?_) ⟨?_, ?_, by omega, fun i hi q hq' => ?_, fun i h1 h2 => by omega⟩
      · rw [pu_ne _ _ _ (by decide), pu_ne _ _ _ (by decide), pz_ne _ _ (by decide), pu_ne _ _ _ (by decide), pz_ne _ _ (by decide)]
      · rw [pu_ne _ _ _ (by decide), pu_ne _ _ _ (by decide), pz_ne _ _ (by decide), pu_ne _ _ _ (by decide), pz_ne _ _ (by decide)]
      · simp [pu_at]
      · simp [pu_at]
      · rw [pu_ne _ _ _ (by decide), pu_ne _ _ _ (by decide), pz_eq]
        have e : i ≠ min (40 + 1) 40 := by omega
        simp only [actG]
        rw [if_neg e, if_neg (by omega : ¬ 40 < 40)]
        by_cases e2 : i = 39
        · subst e2
          rw [if_pos (by omega), show 28 * 39 + q - 28 * 39 = q by omega, pu_ne _ _ _ (by decide), pz_ne _ _ (by decide)]
          exact hS q hq'
        · rw [if_neg (by omega), pu_ne _ _ _ (by decide), pz_eq, if_pos (by omega), show 28 + (28 * i + q) = 28 * (i + 1) + q by omega]
          exact k4 (i + 1) (by omega) q hq'
    · symm
      refine (congrArg (pz _ 92) (funext fun q => ?_)).trans (pz_id _ 92)
      rw [if_neg (by omega)]
set_option maxHeartbeats 4000000 in
set_option maxRecDepth 100000 in
theorem L_X12_exchange {l : Launch} {X : pX} {t g : Nat} {I : pHI} {J : pHJ} {Q : pQ} {f : Nat} (hf : f + 28 ≤ 1120) (hq : ∀ I1, (∀ c k, c ≠ 90 → c ≠ 92 → I1 c k = I c k) → (∀ q, I1 90 q = if q < 28 then I 92 (f + q) else I 90 q) → (∀ q, I1 92 q = if f ≤ q ∧ q < f + 28 then I 90 (q - f) else I 92 q) → Q none I1 J (pR t g)) : ∀ (n j : Nat) (I1 : pHI) (v3 : Option Value), 28 - j < n → j ≤ 28 → (∀ c k, c ≠ 90 → c ≠ 92 → I1 c k = I c k) ∧ (∀ q, I1 90 q = if q < j then I 92 (f + q) else I 90 q) ∧ (∀ q, I1 92 q = if f ≤ q ∧ q < f + j then I 90 (q - f) else I 92 q) → pE l X mX12_exchange 0 pK 2 [some (.ref 67), some (.int (nI f)), some (.int (nI j)), v3] [] pK I1 J (pR t g) Q := by
  intro n
  induction n with
  | zero => intro j I1 v3 hn hj; exact absurd hn (Nat.not_lt_zero _)
  | succ n ih =>
    intro j I1 v3 hn hj hv
    obtain ⟨hx, h90, h92⟩ := hv
    refine pE_iload_n dX12_exchange_2 rfl rfl ?_
    refine pE_bipush (v := nI 28) dX12_exchange_3 rfl ?_
    refine pE_icmp_ge (tgt := 44) dX12_exchange_5 (by decide) (fun h5 => ?_) (fun h5 => ?_)
    · have g5 := nq_le (by omega) (by omega) h5
      refine pE_vret dX12_exchange_44 rfl rfl ?_
      obtain rfl : j = 28 := by omega
      exact hq I1 hx h90 h92
    · have g5 := nq_nle (by omega) (by omega) h5
      refine pE_aload_n dX12_exchange_8 rfl rfl ?_
      refine pE_getR dX12_exchange_9 flX12_91 rfl (by first | assumption | rfl) (by first | assumption | rfl) ?_
      refine pE_iload_n dX12_exchange_12 rfl rfl ?_
      refine pE_iload_n dX12_exchange_13 rfl rfl ?_
      refine pE_iaddN dX12_exchange_14 ?_
      refine pE_ialoadN dX12_exchange_15 (by first | assumption | rfl) (by first | assumption | omega) (by omega) ?_
      rw [h92, if_neg (by omega)]
      refine pE_istore_n (lc' := [_, _, _, some (.int _)]) dX12_exchange_16 rfl (Nat.le_of_ble_eq_true rfl) rfl rfl ?_
      refine pE_aload_n dX12_exchange_17 rfl rfl ?_
      refine pE_getR dX12_exchange_18 flX12_91 rfl (by first | assumption | rfl) (by first | assumption | rfl) ?_
      refine pE_iload_n dX12_exchange_21 rfl rfl ?_
      refine pE_iload_n dX12_exchange_22 rfl rfl ?_
      refine pE_iaddN dX12_exchange_23 ?_
      refine pE_aload_n dX12_exchange_24 rfl rfl ?_
      refine pE_getR dX12_exchange_25 flX12_85 rfl (by first | assumption | rfl) (by first | assumption | rfl) ?_
      refine pE_iload_n dX12_exchange_28 rfl rfl ?_
      refine pE_ialoadN dX12_exchange_29 (by first | assumption | rfl) (by first | assumption | omega) (by omega) ?_
      rw [h90, if_neg (by omega)]
      refine pE_iastoreN dX12_exchange_30 (by first | assumption | rfl) (by first | assumption | omega) (by omega) ?_
      refine pE_aload_n dX12_exchange_31 rfl rfl ?_
      refine pE_getR dX12_exchange_32 flX12_85 rfl (by first | assumption | rfl) (by first | assumption | rfl) ?_
      refine pE_iload_n dX12_exchange_35 rfl rfl ?_
      refine pE_iload_n dX12_exchange_36 rfl rfl ?_
      refine pE_iastoreN dX12_exchange_37 (by first | assumption | rfl) (by first | assumption | omega) (by omega) ?_
      refine pE_iincN (c0 := 1) (lc' := [_, _, some (.int _), _]) dX12_exchange_38 rfl rfl rfl rfl ?_
      refine pE_goto (tgt := 2) dX12_exchange_41 (by decide) ?_
      refine ih (j + 1) _ _ (by omega) (by omega) ⟨fun c k a b => ?_, fun q => ?_, fun q => ?_⟩
      · rw [pu_ne _ _ _ a, pu_ne _ _ _ b]; exact hx c k a b
      · rw [pu_at]
        by_cases e : q = j
        · subst e; rw [if_pos ⟨rfl, rfl⟩, if_pos (by omega)]
        · rw [if_neg (fun h => e h.2), pu_ne _ _ _ (by decide), h90]
          by_cases e2 : q < j
          · rw [if_pos e2, if_pos (by omega)]
          · rw [if_neg e2, if_neg (by omega)]
      · rw [pu_ne _ _ _ (by decide), pu_at]
        by_cases e : q = f + j
        · subst e; rw [if_pos ⟨rfl, rfl⟩, if_pos (by omega), show f + j - f = j by omega]
        · rw [if_neg (fun h => e h.2), h92]
          by_cases e2 : f ≤ q ∧ q < f + j
          · rw [if_pos e2, if_pos (by omega)]
          · rw [if_neg e2, if_neg (by omega)]
set_option maxHeartbeats 4000000 in
set_option maxRecDepth 100000 in
theorem M_X12_exchange {l : Launch} {X : pX} {t g : Nat} {I : pHI} {J : pHJ} {Q : pQ} {f : Nat} (hf : f + 28 ≤ 1120) (hq : ∀ I1, (∀ c k, c ≠ 90 → c ≠ 92 → I1 c k = I c k) → (∀ q, I1 90 q = if q < 28 then I 92 (f + q) else I 90 q) → (∀ q, I1 92 q = if f ≤ q ∧ q < f + 28 then I 90 (q - f) else I 92 q) → Q none I1 J (pR t g)) : pM l X yX12_exchange mX12_exchange 0 [.ref 67, .int (nI f)] pK pK I J (pR t g) Q := by
  refine pM_of rfl (fun h => by cases h) rfl pKM (Nat.le_of_ble_eq_true rfl) ?_
  refine pE_iconst (v := nI 0) dX12_exchange_0 rfl ?_
  refine pE_istore_n (lc' := [_, _, some (.int _), _]) dX12_exchange_1 rfl (Nat.le_of_ble_eq_true rfl) rfl rfl ?_
  exact L_X12_exchange hf hq 29 0 I none (by omega) (by omega) ⟨fun _ _ _ _ => rfl, fun q => by rw [if_neg (by omega)], fun q => by rw [if_neg (by omega)]⟩
set_option maxHeartbeats 4000000 in
set_option maxRecDepth 100000 in
theorem M_X12_undo {l : Launch} {X : pX} {t g : Nat} {I : pHI} {J : pHJ} {Q : pQ} {d u : Nat} {G : Nat → pN} (hK : mK I d u G) (hS : mS 90 (G d) I) (h1 : 0 < d → ∀ I1, sM I I1 → mK I1 (d - 1) (u + 1) G → mS 90 (G (d - 1)) I1 → Q (some (.int (nI 1))) I1 J (pR t g)) (h0 : d = 0 → Q (some (.int (nI 0))) I J (pR t g)) : pM l X yX12_undo mX12_undo 1 [.ref 67] pK pK I J (pR t g) Q := by
  obtain ⟨k1, k2, k3, k4, k5⟩ := hK
  refine pM_of rfl (fun h => by cases h) rfl pKM (Nat.le_of_ble_eq_true rfl) ?_
  refine pE_aload_n dX12_undo_0 rfl rfl ?_
  refine pE_getI dX12_undo_1 flX12_356 rfl (Or.inl rfl) (by first | assumption | rfl) ?_
  rw [k1]
  refine pE_if_ne (tgt := 9) dX12_undo_4 (by decide) (fun h4 => ?_) (fun h4 => ?_)
  · have g4 := nq_ne0 (by omega) h4
    refine pE_aload_n dX12_undo_9 rfl rfl ?_
    refine pE_dupR dX12_undo_10 ?_
    refine pE_getI dX12_undo_11 flX12_356 rfl (Or.inl rfl) (by first | assumption | rfl) ?_
    rw [k1]
    refine pE_iconst (v := nI 1) dX12_undo_14 rfl ?_
    refine pE_isubN dX12_undo_15 (by omega) ?_
    refine pE_putI dX12_undo_16 flX12_356 ftX12 fiX12_48 rfl rfl (by first | assumption | rfl) ?_
    refine pE_aload_n dX12_undo_19 rfl rfl ?_
    refine pE_dupR dX12_undo_20 ?_
    refine pE_getI dX12_undo_21 flX12_359 rfl (Or.inl rfl) (by first | assumption | rfl) ?_
    rw [(by simp [pu_at]; exact k2 : pu I 67 48 (nI (d - 1)) 67 49 = nI u)]
    refine pE_iconst (v := nI 1) dX12_undo_24 rfl ?_
    refine pE_iaddN dX12_undo_25 ?_
    refine pE_putI dX12_undo_26 flX12_359 ftX12 fiX12_49 rfl rfl (by first | assumption | rfl) ?_
    refine pE_aload_n dX12_undo_29 rfl rfl ?_
    refine pE_bipush (v := nI 28) dX12_undo_30 rfl ?_
    refine pE_aload_n dX12_undo_32 rfl rfl ?_
    refine pE_getI dX12_undo_33 flX12_356 rfl (Or.inl rfl) (by first | assumption | rfl) ?_
    rw [(by simp [pu_at] : pu (pu I 67 48 (nI (d - 1))) 67 49 (nI (u + 1)) 67 48 = nI (d - 1))]
    refine pE_imulN dX12_undo_36 ?_
    refine pE_callV (d' := 0) (as := [_]) dX12_undo_37 lkX12_420 (cwX12_exchange _ _) ivX12_exchange ⟨_, rfl, rfl⟩ (by first | assumption | rfl) rfl rfl (Nat.le_of_ble_eq_true rfl) (by decide) pKK ?_
    refine M_X12_exchange (by omega) (fun I1 hx h90 h92 => ?_)
    refine pE_iconst (v := nI 1) dX12_undo_40 rfl ?_
    refine pE_zret dX12_undo_41 rfl (by first | exact Or.inl nI_0 | exact Or.inr nI_1' | assumption) rfl ?_
    refine h1 g4 I1 (fun c k a b1 b2 b3 b4 => ?_) ⟨?_, ?_, by omega, fun i hi q hq => ?_, fun i hi1 hi2 q hq => ?_⟩ (fun q hq => ?_)
    · rw [hx c k b1 b3, pu_at, if_neg (by omega), pu_at, if_neg (by omega)]
    · rw [hx 67 48 (by decide) (by decide)]; simp [pu_at]
    · rw [hx 67 49 (by decide) (by decide)]; simp [pu_at]
    · rw [h92, if_neg (by omega), pu_ne _ _ _ (by decide), pu_ne _ _ _ (by decide)]; exact k4 i (by omega) q hq
    · rw [h92, pu_ne _ _ _ (by decide), pu_ne _ _ _ (by decide), pu_ne _ _ _ (by decide), pu_ne _ _ _ (by decide)]
      by_cases e : i = d - 1
      · subst e; rw [if_pos (by omega), show 28 * (d - 1) + q - 28 * (d - 1) = q by omega, show d - 1 + 1 = d by omega]; exact hS q hq
      · rw [if_neg (by omega)]; exact k5 i (by omega) (by omega) q hq
    · rw [h90, if_pos hq, pu_ne _ _ _ (by decide), pu_ne _ _ _ (by decide)]; exact k4 (d - 1) (by omega) q hq
  · have g4 := nq_eq0 (by omega) h4
    refine pE_iconst (v := nI 0) dX12_undo_7 rfl ?_
    refine pE_zret dX12_undo_8 rfl (by first | exact Or.inl nI_0 | exact Or.inr nI_1' | assumption) rfl ?_
    exact h0 g4
set_option maxHeartbeats 4000000 in
set_option maxRecDepth 100000 in
theorem M_X12_redo {l : Launch} {X : pX} {t g : Nat} {I : pHI} {J : pHJ} {Q : pQ} {d u : Nat} {G : Nat → pN} (hK : mK I d u G) (hS : mS 90 (G d) I) (h1 : 0 < u → ∀ I1, sM I I1 → mK I1 (d + 1) (u - 1) G → mS 90 (G (d + 1)) I1 → Q (some (.int (nI 1))) I1 J (pR t g)) (h0 : u = 0 → Q (some (.int (nI 0))) I J (pR t g)) : pM l X yX12_redo mX12_redo 1 [.ref 67] pK pK I J (pR t g) Q := by
  obtain ⟨k1, k2, k3, k4, k5⟩ := hK
  refine pM_of rfl (fun h => by cases h) rfl pKM (Nat.le_of_ble_eq_true rfl) ?_
  refine pE_aload_n dX12_redo_0 rfl rfl ?_
  refine pE_getI dX12_redo_1 flX12_359 rfl (Or.inl rfl) (by first | assumption | rfl) ?_
  rw [k2]
  refine pE_if_ne (tgt := 9) dX12_redo_4 (by decide) (fun h4 => ?_) (fun h4 => ?_)
  · have g4 := nq_ne0 (by omega) h4
    refine pE_aload_n dX12_redo_9 rfl rfl ?_
    refine pE_bipush (v := nI 28) dX12_redo_10 rfl ?_
    refine pE_aload_n dX12_redo_12 rfl rfl ?_
    refine pE_getI dX12_redo_13 flX12_356 rfl (Or.inl rfl) (by first | assumption | rfl) ?_
    rw [k1]
    refine pE_imulN dX12_redo_16 ?_
    refine pE_callV (d' := 0) (as := [_]) dX12_redo_17 lkX12_420 (cwX12_exchange _ _) ivX12_exchange ⟨_, rfl, rfl⟩ (by first | assumption | rfl) rfl rfl (Nat.le_of_ble_eq_true rfl) (by decide) pKK ?_
    refine M_X12_exchange (by omega) (fun I1 hx h90 h92 => ?_)
    refine pE_aload_n dX12_redo_20 rfl rfl ?_
    refine pE_dupR dX12_redo_21 ?_
    refine pE_getI dX12_redo_22 flX12_356 rfl (Or.inl rfl) (by first | assumption | rfl) ?_
    rw [hx 67 48 (by decide) (by decide), k1]
    refine pE_iconst (v := nI 1) dX12_redo_25 rfl ?_
    refine pE_iaddN dX12_redo_26 ?_
    refine pE_putI dX12_redo_27 flX12_356 ftX12 fiX12_48 rfl rfl (by first | assumption | rfl) ?_
    refine pE_aload_n dX12_redo_30 rfl rfl ?_
    refine pE_dupR dX12_redo_31 ?_
    refine pE_getI dX12_redo_32 flX12_359 rfl (Or.inl rfl) (by first | assumption | rfl) ?_
    rw [(by rw [pu_at, if_neg (by decide), hx 67 49 (by decide) (by decide)]; exact k2 : pu I1 67 48 (nI (d + 1)) 67 49 = nI u)]
    refine pE_iconst (v := nI 1) dX12_redo_35 rfl ?_
    refine pE_isubN dX12_redo_36 (by omega) ?_
    refine pE_putI dX12_redo_37 flX12_359 ftX12 fiX12_49 rfl rfl (by first | assumption | rfl) ?_
    refine pE_iconst (v := nI 1) dX12_redo_40 rfl ?_
    refine pE_zret dX12_redo_41 rfl (by first | exact Or.inl nI_0 | exact Or.inr nI_1' | assumption) rfl ?_
    refine h1 g4 _ (fun c k a b1 b2 b3 b4 => ?_) ⟨?_, ?_, by omega, fun i hi q hq => ?_, fun i hi1 hi2 q hq => ?_⟩ (fun q hq => ?_)
    · rw [pu_at, if_neg (by omega), pu_at, if_neg (by omega), hx c k b1 b3]
    · simp [pu_at]
    · simp [pu_at]
    · rw [pu_ne _ _ _ (by decide), pu_ne _ _ _ (by decide), h92]
      by_cases e : i = d
      · subst e; rw [if_pos (by omega), show 28 * i + q - 28 * i = q by omega]; exact hS q hq
      · rw [if_neg (by omega)]; exact k4 i (by omega) q hq
    · rw [pu_ne _ _ _ (by decide), pu_ne _ _ _ (by decide), h92, if_neg (by omega)]; exact k5 i (by omega) (by omega) q hq
    · rw [pu_ne _ _ _ (by decide), pu_ne _ _ _ (by decide), h90, if_pos hq]; exact k5 d (by omega) (by omega) q hq
  · have g4 := nq_eq0 (by omega) h4
    refine pE_iconst (v := nI 0) dX12_redo_7 rfl ?_
    refine pE_zret dX12_redo_8 rfl (by first | exact Or.inl nI_0 | exact Or.inr nI_1' | assumption) rfl ?_
    exact h0 g4
set_option maxHeartbeats 4000000 in
set_option maxRecDepth 100000 in
theorem M_X12_isBox {l : Launch} {X : pX} {t g : Nat} {I : pHI} {J : pHJ} {Q : pQ} {x : Int32} (h1 : ∀ b, b < 3 → x = nI b → Q (some (.int (nI 1))) I J (pR t g)) (h0 : (∀ b, b < 3 → x ≠ nI b) → Q (some (.int (nI 0))) I J (pR t g)) : pM l X yX12_isBox mX12_isBox 0 [.int x] pK pK I J (pR t g) Q := by
  refine pM_of rfl (fun h => by cases h) rfl pKM (Nat.le_of_ble_eq_true rfl) ?_
  rcases nI_or x with hx | ⟨b, hb, rfl⟩
  · refine pE_iload_n dX12_isBox_0 rfl rfl ?_
    refine pE_if_lt (tgt := 13) dX12_isBox_1 (by decide) (fun h1' => ?_) (fun h1' => ?_)
    · refine pE_iconst (v := nI 0) dX12_isBox_13 rfl ?_
      refine pE_zret dX12_isBox_14 rfl (by first | exact Or.inl nI_0 | exact Or.inr nI_1' | assumption) rfl ?_
      exact h0 (fun b hb e => by rw [e] at hx; exact absurd hx (nI_pos (by omega)))
    · exact absurd hx h1'
  · refine pE_iload_n dX12_isBox_0 rfl rfl ?_
    refine pE_if_lt (tgt := 13) dX12_isBox_1 (by decide) (fun h1' => ?_) (fun h1' => ?_)
    · exact absurd h1' (nI_pos (by omega))
    · refine pE_iload_n dX12_isBox_4 rfl rfl ?_
      refine pE_iconst (v := nI 3) dX12_isBox_5 rfl ?_
      refine pE_icmp_ge (tgt := 13) dX12_isBox_6 (by decide) (fun h6 => ?_) (fun h6 => ?_)
      · have g6 := nq_le (by omega) (by omega) h6
        refine pE_iconst (v := nI 0) dX12_isBox_13 rfl ?_
        refine pE_zret dX12_isBox_14 rfl (by first | exact Or.inl nI_0 | exact Or.inr nI_1' | assumption) rfl ?_
        first | exact h1 b (by omega) rfl | exact h0 (fun i hi e => by have := nq_eq hb (by omega) e; omega)
      · have g6 := nq_nle (by omega) (by omega) h6
        refine pE_iconst (v := nI 1) dX12_isBox_9 rfl ?_
        refine pE_goto (tgt := 14) dX12_isBox_10 (by decide) ?_
        refine pE_zret dX12_isBox_14 rfl (by first | exact Or.inl nI_0 | exact Or.inr nI_1' | assumption) rfl ?_
        first | exact h1 b (by omega) rfl | exact h0 (fun i hi e => by have := nq_eq hb (by omega) e; omega)
set_option maxHeartbeats 4000000 in
set_option maxRecDepth 100000 in
theorem L_X12_image {l : Launch} {X : pX} {t g : Nat} {I : pHI} {J : pHJ} {Q : pQ} {b : Nat} (hb : b < 3) (hq : Q (some (.int (I 90 26))) (pz (pu I 107 b (nI 1)) 108 (fun q => if 28 * b ≤ q ∧ q < 28 * b + 28 then I 90 (q - 28 * b) else I 108 q)) J (pR t g)) : ∀ (n j : Nat), 28 - j < n → j ≤ 28 → pE l X mX12_image 1 pK 18 [some (.ref 67), some (.int (nI b)), some (.int (nI j))] [] pK (pz (pu I 107 b (nI 1)) 108 (fun q => if 28 * b ≤ q ∧ q < 28 * b + j then I 90 (q - 28 * b) else I 108 q)) J (pR t g) Q := by
  intro n
  induction n with
  | zero => intro j hn hj; exact absurd hn (Nat.not_lt_zero _)
  | succ n ih =>
    intro j hn hj
    refine pE_iload_n dX12_image_18 rfl rfl ?_
    refine pE_bipush (v := nI 28) dX12_image_19 rfl ?_
    refine pE_icmp_ge (tgt := 47) dX12_image_21 (by decide) (fun h21 => ?_) (fun h21 => ?_)
    · have g21 := nq_le (by omega) (by omega) h21
      refine pE_aload_n dX12_image_47 rfl rfl ?_
      refine pE_getR dX12_image_48 flX12_85 rfl (by first | assumption | rfl) (by first | assumption | rfl) ?_
      refine pE_bipush (v := nI 26) dX12_image_51 rfl ?_
      refine pE_ialoadN dX12_image_53 (by first | assumption | rfl) (by first | assumption | omega) (by omega) ?_
      rw [pz_ne _ _ (by decide), pu_ne _ _ _ (by decide)]
      refine pE_iret dX12_image_54 rfl rfl ?_
      obtain rfl : j = 28 := by omega
      exact hq
    · have g21 := nq_nle (by omega) (by omega) h21
      refine pE_aload_n dX12_image_24 rfl rfl ?_
      refine pE_getR dX12_image_25 flX12_139 rfl (by first | assumption | rfl) (by first | assumption | rfl) ?_
      refine pE_bipush (v := nI 28) dX12_image_28 rfl ?_
      refine pE_iload_n dX12_image_30 rfl rfl ?_
      refine pE_imulN dX12_image_31 ?_
      refine pE_iload_n dX12_image_32 rfl rfl ?_
      refine pE_iaddN dX12_image_33 ?_
      refine pE_aload_n dX12_image_34 rfl rfl ?_
      refine pE_getR dX12_image_35 flX12_85 rfl (by first | assumption | rfl) (by first | assumption | rfl) ?_
      refine pE_iload_n dX12_image_38 rfl rfl ?_
      refine pE_ialoadN dX12_image_39 (by first | assumption | rfl) (by first | assumption | omega) (by omega) ?_
      refine pE_iastoreN dX12_image_40 (by first | assumption | rfl) (by first | assumption | omega) (by omega) ?_
      refine pE_iincN (c0 := 1) (lc' := [_, _, some (.int _)]) dX12_image_41 rfl rfl rfl rfl ?_
      refine pE_goto (tgt := 18) dX12_image_44 (by decide) ?_
      refine pE_cg (ih (j + 1) (by omega) (by omega)) rfl rfl (lp_pz (fun q => ?_)) rfl rfl
      rw [pz_ne _ _ (by decide), pu_ne _ _ _ (by decide)]
      by_cases e : q = 28 * b + j
      · subst e; rw [if_pos rfl, if_pos (by omega), show 28 * b + j - 28 * b = j by omega]
      · rw [if_neg e]
        by_cases e2 : 28 * b ≤ q ∧ q < 28 * b + j
        · rw [if_pos e2, if_pos (by omega)]
        · rw [if_neg e2, if_neg (by omega)]
set_option maxHeartbeats 4000000 in
set_option maxRecDepth 100000 in
theorem M_X12_image {l : Launch} {X : pX} {t g : Nat} {I : pHI} {J : pHJ} {Q : pQ} {x : Int32} {F : Nat → Bool} {B : Nat → pN} {T : pN} (hS : mS 90 T I) (hB : cB 107 108 I F B) (h1 : ∀ b, b < 3 → x = nI b → ∀ I1, (∀ c k, c ≠ 107 → c ≠ 108 → I1 c k = I c k) → cB 107 108 I1 (fun i => F i || decide (i = b)) (fun i => if i = b then T else B i) → Q (some (.int (nI (T 26)))) I1 J (pR t g)) (h0 : (∀ b, b < 3 → x ≠ nI b) → Q (some (.int (-1))) I J (pR t g)) : pM l X yX12_image mX12_image 1 [.ref 67, .int x] pK pK I J (pR t g) Q := by
  refine pM_of rfl (fun h => by cases h) rfl pKM (Nat.le_of_ble_eq_true rfl) ?_
  refine pE_iload_n dX12_image_0 rfl rfl ?_
  refine pE_callS (d' := 0) (as := [_]) dX12_image_1 lkX12_499 (cwX12_isBox _ _) svX12_isBox rfl rfl (Nat.le_of_ble_eq_true rfl) (by decide) pKK ?_
  refine M_X12_isBox  (fun b hb e => ?_) (fun hno => ?_)
  · subst e
    refine pE_if_ne_t (tgt := 9) dX12_image_4 (by decide) nI_1n0 ?_
    refine pE_aload_n dX12_image_9 rfl rfl ?_
    refine pE_getR dX12_image_10 flX12_136 rfl (by first | assumption | rfl) (by first | assumption | rfl) ?_
    refine pE_iload_n dX12_image_13 rfl rfl ?_
    refine pE_iconst (v := nI 1) dX12_image_14 rfl ?_
    refine pE_zastoreN dX12_image_15 (by first | assumption | rfl) (by first | exact Or.inl nI_0 | exact Or.inr nI_1' | assumption) (by first | assumption | omega) (by omega) ?_
    refine pE_iconst (v := nI 0) dX12_image_16 rfl ?_
    refine pE_istore_n (lc' := [_, _, some (.int _)]) dX12_image_17 rfl (Nat.le_of_ble_eq_true rfl) rfl rfl ?_
    refine pE_cg (L_X12_image (I := I) hb ?_ 29 0 (by omega) (by omega)) rfl rfl ?_ rfl rfl
    · rw [hS 26 (by omega)]
      refine h1 b hb rfl _ (fun c k n1 n2 => by rw [pz_ne _ _ n2, pu_ne _ _ _ n1]) (fun i hi => ⟨?_, fun hf q hq => ?_⟩)
      · rw [pz_ne _ _ (by decide), pu_at]
        by_cases e : i = b
        · subst e; simp
        · rw [if_neg (by omega), (hB i hi).1]; simp [e]
      · rw [pz_eq]
        show (if 28 * b ≤ 28 * i + q ∧ 28 * i + q < 28 * b + 28 then I 90 (28 * i + q - 28 * b) else I 108 (28 * i + q)) = nI ((if i = b then T else B i) q)
        by_cases e : i = b
        · subst e; rw [if_pos rfl, if_pos (by omega), show 28 * i + q - 28 * i = q by omega]; exact hS q hq
        · rw [if_neg e, if_neg (by omega)]
          simp [e] at hf
          exact (hB i hi).2 hf q hq
    · symm
      refine (congrArg (pz _ 108) (funext fun q => ?_)).trans (pz_id _ 108)
      rw [if_neg (by omega), pu_ne _ _ _ (by decide)]
  · refine pE_if_ne_f (tgt := 9) dX12_image_4 (by decide) nI_0 ?_
    refine pE_iconst (v := -1) dX12_image_7 rfl ?_
    refine pE_iret dX12_image_8 rfl rfl ?_
    exact h0 hno
set_option maxHeartbeats 4000000 in
set_option maxRecDepth 100000 in
theorem L_X12_back {l : Launch} {X : pX} {t g : Nat} {I : pHI} {J : pHJ} {Q : pQ} {b : Nat} (hb : b < 3) (hq : Q (some (.int (I 108 (28 * b + 26)))) (pu (pu (pz I 90 (fun q => if q < 28 then I 108 (28 * b + q) else I 90 q)) 67 48 (nI 0)) 67 49 (nI 0)) J (pR t g)) : ∀ (n j : Nat), 28 - j < n → j ≤ 28 → pE l X mX12_back 1 pK 20 [some (.ref 67), some (.int (nI b)), some (.int (nI j))] [] pK (pz I 90 (fun q => if q < j then I 108 (28 * b + q) else I 90 q)) J (pR t g) Q := by
  intro n
  induction n with
  | zero => intro j hn hj; exact absurd hn (Nat.not_lt_zero _)
  | succ n ih =>
    intro j hn hj
    refine pE_iload_n dX12_back_20 rfl rfl ?_
    refine pE_bipush (v := nI 28) dX12_back_21 rfl ?_
    refine pE_icmp_ge (tgt := 49) dX12_back_23 (by decide) (fun h23 => ?_) (fun h23 => ?_)
    · have g23 := nq_le (by omega) (by omega) h23
      refine pE_aload_n dX12_back_49 rfl rfl ?_
      refine pE_iconst (v := nI 0) dX12_back_50 rfl ?_
      refine pE_putI dX12_back_51 flX12_356 ftX12 fiX12_48 rfl rfl (by first | assumption | rfl) ?_
      refine pE_aload_n dX12_back_54 rfl rfl ?_
      refine pE_iconst (v := nI 0) dX12_back_55 rfl ?_
      refine pE_putI dX12_back_56 flX12_359 ftX12 fiX12_49 rfl rfl (by first | assumption | rfl) ?_
      refine pE_aload_n dX12_back_59 rfl rfl ?_
      refine pE_getR dX12_back_60 flX12_85 rfl (by first | assumption | rfl) (by first | assumption | rfl) ?_
      refine pE_bipush (v := nI 26) dX12_back_63 rfl ?_
      refine pE_ialoadN dX12_back_65 (by first | assumption | rfl) (by first | assumption | omega) (by omega) ?_
      obtain rfl : j = 28 := by omega
      rw [pu_ne _ _ _ (by decide), pu_ne _ _ _ (by decide), pz_eq, if_pos (by omega)]
      refine pE_iret dX12_back_66 rfl rfl ?_
      exact hq
    · have g23 := nq_nle (by omega) (by omega) h23
      refine pE_aload_n dX12_back_26 rfl rfl ?_
      refine pE_getR dX12_back_27 flX12_85 rfl (by first | assumption | rfl) (by first | assumption | rfl) ?_
      refine pE_iload_n dX12_back_30 rfl rfl ?_
      refine pE_aload_n dX12_back_31 rfl rfl ?_
      refine pE_getR dX12_back_32 flX12_139 rfl (by first | assumption | rfl) (by first | assumption | rfl) ?_
      refine pE_bipush (v := nI 28) dX12_back_35 rfl ?_
      refine pE_iload_n dX12_back_37 rfl rfl ?_
      refine pE_imulN dX12_back_38 ?_
      refine pE_iload_n dX12_back_39 rfl rfl ?_
      refine pE_iaddN dX12_back_40 ?_
      refine pE_ialoadN dX12_back_41 (by first | assumption | rfl) (by first | assumption | omega) (by omega) ?_
      rw [pz_ne _ _ (by decide)]
      refine pE_iastoreN dX12_back_42 (by first | assumption | rfl) (by first | assumption | omega) (by omega) ?_
      refine pE_iincN (c0 := 1) (lc' := [_, _, some (.int _)]) dX12_back_43 rfl rfl rfl rfl ?_
      refine pE_goto (tgt := 20) dX12_back_46 (by decide) ?_
      exact pE_cg (ih (j + 1) (by omega) (by omega)) rfl rfl (lp_fill (a := fun q => I 108 (28 * b + q)) (b := I 90) rfl) rfl rfl
set_option maxHeartbeats 4000000 in
set_option maxRecDepth 100000 in
theorem M_X12_back {l : Launch} {X : pX} {t g : Nat} {I : pHI} {J : pHJ} {Q : pQ} {x : Int32} {F : Nat → Bool} {B : Nat → pN} (hB : cB 107 108 I F B) (h1 : ∀ b, b < 3 → x = nI b → F b = true → ∀ I1, sM I I1 → mS 90 (B b) I1 → mK I1 0 0 (fun _ => B b) → Q (some (.int (nI (B b 26)))) I1 J (pR t g)) (h0 : (∀ b, b < 3 → x = nI b → F b = false) → Q (some (.int (-1))) I J (pR t g)) : pM l X yX12_back mX12_back 1 [.ref 67, .int x] pK pK I J (pR t g) Q := by
  refine pM_of rfl (fun h => by cases h) rfl pKM (Nat.le_of_ble_eq_true rfl) ?_
  refine pE_iload_n dX12_back_0 rfl rfl ?_
  refine pE_callS (d' := 0) (as := [_]) dX12_back_1 lkX12_499 (cwX12_isBox _ _) svX12_isBox rfl rfl (Nat.le_of_ble_eq_true rfl) (by decide) pKK ?_
  refine M_X12_isBox  (fun b hb e => ?_) (fun hno => ?_)
  · subst e
    refine pE_if_eq_f (tgt := 16) dX12_back_4 (by decide) nI_1n0 ?_
    refine pE_aload_n dX12_back_7 rfl rfl ?_
    refine pE_getR dX12_back_8 flX12_136 rfl (by first | assumption | rfl) (by first | assumption | rfl) ?_
    refine pE_iload_n dX12_back_11 rfl rfl ?_
    refine pE_zaloadN dX12_back_12 (by first | assumption | rfl) (by first | assumption | omega) (by omega) ?_
    rw [(hB b hb).1]
    have hlt : (if F b = true then 1 else 0) < 2 := by split <;> omega
    refine pE_if_ne (tgt := 18) dX12_back_13 (by decide) (fun h13 => ?_) (fun h13 => ?_)
    · have g13 := nq_ne0 (by omega) h13
      have hf : F b = true := by
        cases e : F b with
        | true => rfl
        | false => rw [e] at g13; simp at g13
      refine pE_iconst (v := nI 0) dX12_back_18 rfl ?_
      refine pE_istore_n (lc' := [_, _, some (.int _)]) dX12_back_19 rfl (Nat.le_of_ble_eq_true rfl) rfl rfl ?_
      refine pE_cg (L_X12_back (I := I) hb ?_ 29 0 (by omega) (by omega)) rfl rfl (lp_fill0 I 90 (fun q => I 108 (28 * b + q))) rfl rfl
      rw [(hB b hb).2 hf 26 (by omega)]
      refine h1 b hb rfl hf _ (((sM.rf.pz (by omega)).pu (by omega)).pu (by omega)) (fun q hq => ?_) ⟨by simp [pu_at], by simp [pu_at], by omega, fun i hi => by omega, fun i h1 h2 => by omega⟩
      rw [pu_ne _ _ _ (by decide), pu_ne _ _ _ (by decide), pz_eq, if_pos hq]
      exact (hB b hb).2 hf q hq
    · have g13 := nq_eq0 (by omega) h13
      have hf : F b = false := by
        cases e : F b with
        | false => rfl
        | true => rw [e] at g13; simp at g13
      refine pE_iconst (v := -1) dX12_back_16 rfl ?_
      refine pE_iret dX12_back_17 rfl rfl ?_
      first | exact h0 (fun i hi e => absurd e (hno i hi)) | exact h0 (fun i hi e => by have := nq_eq (by omega) (by omega) e; subst this; exact hf)
  · refine pE_if_eq_t (tgt := 16) dX12_back_4 (by decide) nI_0 ?_
    refine pE_iconst (v := -1) dX12_back_16 rfl ?_
    refine pE_iret dX12_back_17 rfl rfl ?_
    first | exact h0 (fun i hi e => absurd e (hno i hi)) | exact h0 (fun i hi e => by have := nq_eq (by omega) (by omega) e; subst this; exact hf)
