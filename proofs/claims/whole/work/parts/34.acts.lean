-- needs: 32.kept 33.rel9
set_option maxHeartbeats 4000000 in
set_option maxRecDepth 100000 in
theorem M_X3_restart {l : Launch} {X : pX} {t g : Nat} {I : pHI} {J : pHJ} {Q : pQ} {T : pN} (hS : cS 33 T I) (hq : ∀ I1, sk I I1 → cK I1 0 0 0 (fun _ => T) → Q none I1 J (pR t g)) : pM l X yX3_restart mX3_restart 2 [.ref 41, .ref 33] pK pK I J (pR t g) Q := by
  refine pM_of rfl (fun h => by cases h) rfl pKM (Nat.le_of_ble_eq_true rfl) ?_
  refine pE_aload_n dX3_restart_0 rfl rfl ?_
  refine pE_iconst (v := nI 0) dX3_restart_1 rfl ?_
  refine pE_putI dX3_restart_2 flX3_15 ftX3 fiX3_1 rfl rfl (by first | assumption | rfl) ?_
  refine pE_aload_n dX3_restart_5 rfl rfl ?_
  refine pE_iconst (v := nI 0) dX3_restart_6 rfl ?_
  refine pE_putI dX3_restart_7 flX3_19 ftX3 fiX3_2 rfl rfl (by first | assumption | rfl) ?_
  refine pE_aload_n dX3_restart_10 rfl rfl ?_
  refine pE_iconst (v := nI 0) dX3_restart_11 rfl ?_
  refine pE_putI dX3_restart_12 flX3_22 ftX3 fiX3_3 rfl rfl (by first | assumption | rfl) ?_
  refine pE_aload_n dX3_restart_15 rfl rfl ?_
  refine pE_aload_n dX3_restart_16 rfl rfl ?_
  refine pE_getR dX3_restart_17 flX3_11 rfl (by first | assumption | rfl) (by first | assumption | rfl) ?_
  refine pE_aload_n dX3_restart_20 rfl rfl ?_
  refine pE_iconst (v := nI 0) dX3_restart_21 rfl ?_
  refine pE_callV (d' := 0) (as := [_]) dX3_restart_22 lkX3_32 (cwX3_slotOf _ _) ivX3_slotOf ⟨_, rfl, rfl⟩ (by first | assumption | rfl) rfl rfl (Nat.le_of_ble_eq_true rfl) (by decide) pKK ?_
  refine M_X3_slotOf (od := 0) (a := 0) (by simp [pu_at]) (by omega) (by omega) ?_
  refine pE_callV (d' := 1) (as := [_, _]) dX3_restart_25 lkX3_36 (cwX9_saveTo _ _) ivX9_saveTo ⟨_, rfl, rfl⟩ (by first | assumption | rfl) rfl rfl (Nat.le_of_ble_eq_true rfl) (by decide) pKK ?_
  refine M_X9_saveTo (k := (0 + 0) % 41) (T := T) (hS.sk (fun c k n1 n2 => by rw [pu_ne _ _ _ n1, pu_ne _ _ _ n1, pu_ne _ _ _ n1])) rfl (by omega) (by omega) (Or.inl rfl) (fun gg k1 k2 => ?_)
  refine pE_vret dX3_restart_28 rfl rfl ?_
  refine hq _ (fun c k n1 n2 => ?_) ⟨?_, ?_, ?_, by omega, by omega, fun i hi q hq => ?_⟩
  · rw [pz_ne _ _ n2, pu_ne _ _ _ n1, pu_ne _ _ _ n1, pu_ne _ _ _ n1]
  · rw [pz_ne _ _ (by decide)]; simp [pu_at]
  · rw [pz_ne _ _ (by decide)]; simp [pu_at]
  · rw [pz_ne _ _ (by decide)]; simp [pu_at]
  · obtain rfl : i = 0 := by omega
    rw [pz_eq]; exact k1 q hq
set_option maxHeartbeats 4000000 in
set_option maxRecDepth 100000 in
theorem M_X3_keepAct {l : Launch} {X : pX} {t g : Nat} {I : pHI} {J : pHJ} {Q : pQ} {od d u : Nat} {G : Nat → pN} {T : pN} (hS : cS 33 T I) (hK : cK I od d u G) (hq : ∀ I1 od1, sk I I1 → cK I1 od1 (min (d + 1) 40) 0 (actG d G T) → Q none I1 J (pR t g)) : pM l X yX3_keepAct mX3_keepAct 2 [.ref 41, .ref 33] pK pK I J (pR t g) Q := by
  obtain ⟨k1, k2, k3, k4, k5, k6⟩ := hK
  refine pM_of rfl (fun h => by cases h) rfl pKM (Nat.le_of_ble_eq_true rfl) ?_
  refine pE_aload_n dX3_keepAct_0 rfl rfl ?_
  refine pE_iconst (v := nI 0) dX3_keepAct_1 rfl ?_
  refine pE_putI dX3_keepAct_2 flX3_22 ftX3 fiX3_3 rfl rfl (by first | assumption | rfl) ?_
  refine pE_aload_n dX3_keepAct_5 rfl rfl ?_
  refine pE_getI dX3_keepAct_6 flX3_19 rfl (Or.inl rfl) (by first | assumption | rfl) ?_
  rw [(by rw [pu_at, if_neg (by decide)]; exact k2 : pu I 41 3 (nI 0) 41 2 = nI d)]
  refine pE_bipush (v := nI 40) dX3_keepAct_9 rfl ?_
  refine pE_icmp_ge (tgt := 27) dX3_keepAct_11 (by decide) (fun h11 => ?_) (fun h11 => ?_)
  · have g11 := nq_le (by omega) (by omega) h11
    refine pE_aload_n dX3_keepAct_27 rfl rfl ?_
    refine pE_aload_n dX3_keepAct_28 rfl rfl ?_
    refine pE_iconst (v := nI 1) dX3_keepAct_29 rfl ?_
    refine pE_callV (d' := 0) (as := [_]) dX3_keepAct_30 lkX3_32 (cwX3_slotOf _ _) ivX3_slotOf ⟨_, rfl, rfl⟩ (by first | assumption | rfl) rfl rfl (Nat.le_of_ble_eq_true rfl) (by decide) pKK ?_
    refine M_X3_slotOf (od := od) (a := 1) (by rw [pu_at, if_neg (by decide)]; exact k1) k4 (by omega) ?_
    refine pE_putI dX3_keepAct_33 flX3_15 ftX3 fiX3_1 rfl rfl (by first | assumption | rfl) ?_
    refine pE_aload_n dX3_keepAct_36 rfl rfl ?_
    refine pE_aload_n dX3_keepAct_37 rfl rfl ?_
    refine pE_getR dX3_keepAct_38 flX3_11 rfl (by first | assumption | rfl) (by first | assumption | rfl) ?_
    refine pE_aload_n dX3_keepAct_41 rfl rfl ?_
    refine pE_aload_n dX3_keepAct_42 rfl rfl ?_
    refine pE_getI dX3_keepAct_43 flX3_19 rfl (Or.inl rfl) (by first | assumption | rfl) ?_
    rw [(by simp [pu_at]; exact k2 : pu (pu I 41 3 (nI 0)) 41 1 (nI ((od + 1) % 41)) 41 2 = nI d)]
    refine pE_callV (d' := 0) (as := [_]) dX3_keepAct_46 lkX3_32 (cwX3_slotOf _ _) ivX3_slotOf ⟨_, rfl, rfl⟩ (by first | assumption | rfl) rfl rfl (Nat.le_of_ble_eq_true rfl) (by decide) pKK ?_
    refine M_X3_slotOf (od := (od + 1) % 41) (a := d) (by simp [pu_at]) (by omega) (by omega) ?_
    refine pE_callV (d' := 1) (as := [_, _]) dX3_keepAct_49 lkX3_36 (cwX9_saveTo _ _) ivX9_saveTo ⟨_, rfl, rfl⟩ (by first | assumption | rfl) rfl rfl (Nat.le_of_ble_eq_true rfl) (by decide) pKK ?_
    refine M_X9_saveTo (k := ((od + 1) % 41 + d) % 41) (T := T) (hS.sk (fun c k n1 n2 => by rw [pu_ne _ _ _ n1, pu_ne _ _ _ n1])) rfl (by omega) (by omega) (Or.inl rfl) (fun gg e1 e2 => ?_)
    refine pE_vret dX3_keepAct_52 rfl rfl ?_
    refine hq _ ((od + 1) % 41) (fun c k n1 n2 => ?_) ⟨?_, ?_, ?_, by omega, by omega, fun i hi q hq => ?_⟩
    · rw [pz_ne _ _ n2, pu_ne _ _ _ n1, pu_ne _ _ _ n1]
    · rw [pz_ne _ _ (by decide)]; simp [pu_at]
    · rw [pz_ne _ _ (by decide), show min (d + 1) 40 = d by omega]; simp [pu_at]; exact k2
    · rw [pz_ne _ _ (by decide)]; simp [pu_at]
    · rw [pz_eq]
      simp only [actG]
      by_cases e : i = min (d + 1) 40
      · rw [if_pos e, show i = d by omega]; exact e1 q hq
      · rw [if_neg e, if_neg (by omega)]
        have a1 : ((od + 1) % 41 + i) % 41 ≠ ((od + 1) % 41 + d) % 41 := by omega
        rw [e2 _ (by omega), pu_ne _ _ _ (by decide), pu_ne _ _ _ (by decide), show ((od + 1) % 41 + i) % 41 = (od + (i + 1)) % 41 by omega]
        exact k6 (i + 1) (by omega) q hq
  · have g11 := nq_nle (by omega) (by omega) h11
    refine pE_aload_n dX3_keepAct_14 rfl rfl ?_
    refine pE_dupR dX3_keepAct_15 ?_
    refine pE_getI dX3_keepAct_16 flX3_19 rfl (Or.inl rfl) (by first | assumption | rfl) ?_
    rw [(by rw [pu_at, if_neg (by decide)]; exact k2 : pu I 41 3 (nI 0) 41 2 = nI d)]
    refine pE_iconst (v := nI 1) dX3_keepAct_19 rfl ?_
    refine pE_iaddN dX3_keepAct_20 ?_
    refine pE_putI dX3_keepAct_21 flX3_19 ftX3 fiX3_2 rfl rfl (by first | assumption | rfl) ?_
    refine pE_goto (tgt := 36) dX3_keepAct_24 (by decide) ?_
    refine pE_aload_n dX3_keepAct_36 rfl rfl ?_
    refine pE_aload_n dX3_keepAct_37 rfl rfl ?_
    refine pE_getR dX3_keepAct_38 flX3_11 rfl (by first | assumption | rfl) (by first | assumption | rfl) ?_
    refine pE_aload_n dX3_keepAct_41 rfl rfl ?_
    refine pE_aload_n dX3_keepAct_42 rfl rfl ?_
    refine pE_getI dX3_keepAct_43 flX3_19 rfl (Or.inl rfl) (by first | assumption | rfl) ?_
    rw [pu_at, if_pos ⟨rfl, rfl⟩]
    refine pE_callV (d' := 0) (as := [_]) dX3_keepAct_46 lkX3_32 (cwX3_slotOf _ _) ivX3_slotOf ⟨_, rfl, rfl⟩ (by first | assumption | rfl) rfl rfl (Nat.le_of_ble_eq_true rfl) (by decide) pKK ?_
    refine M_X3_slotOf (od := od) (a := d + 1) (by simp [pu_at]; exact k1) k4 (by omega) ?_
    refine pE_callV (d' := 1) (as := [_, _]) dX3_keepAct_49 lkX3_36 (cwX9_saveTo _ _) ivX9_saveTo ⟨_, rfl, rfl⟩ (by first | assumption | rfl) rfl rfl (Nat.le_of_ble_eq_true rfl) (by decide) pKK ?_
    refine M_X9_saveTo (k := (od + (d + 1)) % 41) (T := T) (hS.sk (fun c k n1 n2 => by rw [pu_ne _ _ _ n1, pu_ne _ _ _ n1])) rfl (by omega) (by omega) (Or.inl rfl) (fun gg e1 e2 => ?_)
    refine pE_vret dX3_keepAct_52 rfl rfl ?_
    refine hq _ od (fun c k n1 n2 => ?_) ⟨?_, ?_, ?_, k4, by omega, fun i hi q hq => ?_⟩
    · rw [pz_ne _ _ n2, pu_ne _ _ _ n1, pu_ne _ _ _ n1]
    · rw [pz_ne _ _ (by decide)]; simp [pu_at]; exact k1
    · rw [pz_ne _ _ (by decide), show min (d + 1) 40 = d + 1 by omega]; simp [pu_at]
    · rw [pz_ne _ _ (by decide)]; simp [pu_at]
    · rw [pz_eq]
      simp only [actG]
      by_cases e : i = min (d + 1) 40
      · rw [if_pos e, show i = d + 1 by omega]; exact e1 q hq
      · rw [if_neg e, if_pos (by omega)]
        have a1 : (od + i) % 41 ≠ (od + (d + 1)) % 41 := by omega
        rw [e2 _ (by omega), pu_ne _ _ _ (by decide), pu_ne _ _ _ (by decide)]
        exact k6 i (by omega) q hq
set_option maxHeartbeats 4000000 in
set_option maxRecDepth 100000 in
theorem L_X3_clearBoxes {l : Launch} {X : pX} {t g : Nat} {I : pHI} {J : pHJ} {Q : pQ}  (hq : Q none (pz I 44 (fun q => if q < 3 then nI 0 else I 44 q)) J (pR t g)) : ∀ (n j : Nat), 3 - j < n → j ≤ 3 → pE l X mX3_clearBoxes 0 pK 2 [some (.ref 41), some (.int (nI j))] [] pK (pz I 44 (fun q => if q < j then nI 0 else I 44 q)) J (pR t g) Q := by
  intro n
  induction n with
  | zero => intro j hn hj; exact absurd hn (Nat.not_lt_zero _)
  | succ n ih =>
    intro j hn hj
    refine pE_iload_n dX3_clearBoxes_2 rfl rfl ?_
    refine pE_iconst (v := nI 3) dX3_clearBoxes_3 rfl ?_
    refine pE_icmp_ge (tgt := 20) dX3_clearBoxes_4 (by decide) (fun h4 => ?_) (fun h4 => ?_)
    · have g4 := nq_le (by omega) (by omega) h4
      refine pE_vret dX3_clearBoxes_20 rfl rfl ?_
      obtain rfl : j = 3 := by omega
      exact hq
    · have g4 := nq_nle (by omega) (by omega) h4
      refine pE_aload_n dX3_clearBoxes_7 rfl rfl ?_
      refine pE_getR dX3_clearBoxes_8 flX3_28 rfl (by first | assumption | rfl) (by first | assumption | rfl) ?_
      refine pE_iload_n dX3_clearBoxes_11 rfl rfl ?_
      refine pE_iconst (v := nI 0) dX3_clearBoxes_12 rfl ?_
      refine pE_zastoreN dX3_clearBoxes_13 (by first | assumption | rfl) (by first | exact Or.inl nI_0 | exact Or.inr nI_1' | assumption) (by first | assumption | omega) (by omega) ?_
      refine pE_iincN (c0 := 1) (lc' := [_, some (.int _)]) dX3_clearBoxes_14 rfl rfl rfl rfl ?_
      refine pE_goto (tgt := 2) dX3_clearBoxes_17 (by decide) ?_
      refine pE_cg (ih (j + 1) (by omega) (by omega)) rfl rfl (lp_fill (a := fun _ => nI 0) (b := I 44) rfl) rfl rfl
set_option maxHeartbeats 4000000 in
set_option maxRecDepth 100000 in
theorem M_X3_clearBoxes {l : Launch} {X : pX} {t g : Nat} {I : pHI} {J : pHJ} {Q : pQ}  (hq : Q none (pz I 44 (fun q => if q < 3 then nI 0 else I 44 q)) J (pR t g)) : pM l X yX3_clearBoxes mX3_clearBoxes 0 [.ref 41] pK pK I J (pR t g) Q := by
  refine pM_of rfl (fun h => by cases h) rfl pKM (Nat.le_of_ble_eq_true rfl) ?_
  refine pE_iconst (v := nI 0) dX3_clearBoxes_0 rfl ?_
  refine pE_istore_n (lc' := [_, some (.int _)]) dX3_clearBoxes_1 rfl (Nat.le_of_ble_eq_true rfl) rfl rfl ?_
  refine pE_cg (L_X3_clearBoxes hq 4 0 (by omega) (by omega)) rfl rfl (lp_fill0 I 44 (fun _ => nI 0)) rfl rfl
set_option maxHeartbeats 4000000 in
set_option maxRecDepth 100000 in
theorem M_X3_keepInBox {l : Launch} {X : pX} {t g : Nat} {I : pHI} {J : pHJ} {Q : pQ} {x : Int32} {T : pN} {F : Nat → Bool} {B : Nat → pN} (hS : cS 33 T I) (hB : cB 44 43 I F B) (h1 : ∀ b, b < 3 → x = nI b → ∀ I1, (∀ c k, c ≠ 43 → c ≠ 44 → I1 c k = I c k) → cB 44 43 I1 (fun i => F i || decide (i = b)) (fun i => if i = b then T else B i) → Q (some (.int (nI 1))) I1 J (pR t g)) (h0 : (∀ b, b < 3 → x ≠ nI b) → Q (some (.int (nI 0))) I J (pR t g)) : pM l X yX3_keepInBox mX3_keepInBox 2 [.ref 41, .int x, .ref 33] pK pK I J (pR t g) Q := by
  refine pM_of rfl (fun h => by cases h) rfl pKM (Nat.le_of_ble_eq_true rfl) ?_
  rcases nI_or x with hx | ⟨b, hb, rfl⟩
  · refine pE_iload_n dX3_keepInBox_0 rfl rfl ?_
    refine pE_if_lt (tgt := 9) dX3_keepInBox_1 (by decide) (fun h1' => ?_) (fun h1' => ?_)
    · refine pE_iconst (v := nI 0) dX3_keepInBox_9 rfl ?_
      refine pE_zret dX3_keepInBox_10 rfl (by first | exact Or.inl nI_0 | exact Or.inr nI_1' | assumption) rfl ?_
      exact h0 (fun b hb => by intro e; rw [e] at hx; exact absurd hx (nI_pos (by omega)))
    · exact absurd hx h1'
  · refine pE_iload_n dX3_keepInBox_0 rfl rfl ?_
    refine pE_if_lt (tgt := 9) dX3_keepInBox_1 (by decide) (fun h1' => ?_) (fun h1' => ?_)
    · exact absurd h1' (nI_pos (by omega))
    · refine pE_iload_n dX3_keepInBox_4 rfl rfl ?_
      refine pE_iconst (v := nI 3) dX3_keepInBox_5 rfl ?_
      refine pE_icmp_lt (tgt := 11) dX3_keepInBox_6 (by decide) (fun h6 => ?_) (fun h6 => ?_)
      · have g6 := nq_lt (by omega) (by omega) h6
        refine pE_aload_n dX3_keepInBox_11 rfl rfl ?_
        refine pE_aload_n dX3_keepInBox_12 rfl rfl ?_
        refine pE_getR dX3_keepInBox_13 flX3_25 rfl (by first | assumption | rfl) (by first | assumption | rfl) ?_
        refine pE_iload_n dX3_keepInBox_16 rfl rfl ?_
        refine pE_callV (d' := 1) (as := [_, _]) dX3_keepInBox_17 lkX3_36 (cwX9_saveTo _ _) ivX9_saveTo ⟨_, rfl, rfl⟩ (by first | assumption | rfl) rfl rfl (Nat.le_of_ble_eq_true rfl) (by decide) pKK ?_
        refine M_X9_saveTo (k := b) (T := T) hS rfl (by omega) (by omega) (Or.inr rfl) (fun gg e1 e2 => ?_)
        refine pE_aload_n dX3_keepInBox_20 rfl rfl ?_
        refine pE_getR dX3_keepInBox_21 flX3_28 rfl (by first | assumption | rfl) (by first | assumption | rfl) ?_
        refine pE_iload_n dX3_keepInBox_24 rfl rfl ?_
        refine pE_iconst (v := nI 1) dX3_keepInBox_25 rfl ?_
        refine pE_zastoreN dX3_keepInBox_26 (by first | assumption | rfl) (by first | exact Or.inl nI_0 | exact Or.inr nI_1' | assumption) (by first | assumption | omega) (by omega) ?_
        refine pE_iconst (v := nI 1) dX3_keepInBox_27 rfl ?_
        refine pE_zret dX3_keepInBox_28 rfl (by first | exact Or.inl nI_0 | exact Or.inr nI_1' | assumption) rfl ?_
        refine h1 b (by omega) rfl _ (fun c k n1 n2 => by rw [pu_ne _ _ _ n2, pz_ne _ _ n1]) (fun i hi => ⟨?_, fun hf q hq => ?_⟩)
        · rw [pu_at]
          by_cases e : i = b
          · subst e; simp
          · rw [if_neg (by omega), pz_ne _ _ (by decide), (hB i hi).1]; simp [e]
        · rw [pu_ne _ _ _ (by decide), pz_eq]
          show gg (28 * i + q) = nI ((if i = b then T else B i) q)
          by_cases e : i = b
          · subst e; rw [if_pos rfl]; exact e1 q hq
          · rw [if_neg e, e2 _ (by omega)]
            simp [e] at hf
            exact (hB i hi).2 hf q hq
      · have g6 := nq_nlt (by omega) (by omega) h6
        refine pE_iconst (v := nI 0) dX3_keepInBox_9 rfl ?_
        refine pE_zret dX3_keepInBox_10 rfl (by first | exact Or.inl nI_0 | exact Or.inr nI_1' | assumption) rfl ?_
        exact h0 (fun i hi e => by have := nq_eq hb (by omega) e; omega)
set_option maxHeartbeats 4000000 in
set_option maxRecDepth 100000 in
theorem M_X3_loadFromBox {l : Launch} {X : pX} {t g : Nat} {I : pHI} {J : pHJ} {Q : pQ} {x : Int32} {F : Nat → Bool} {B : Nat → pN} (hB : cB 44 43 I F B) (h1 : ∀ b, b < 3 → x = nI b → F b = true → ∀ I1, sx 33 I I1 → cS 33 (B b) I1 → Q (some (.int (nI 1))) I1 J (pR t g)) (h0 : (∀ b, b < 3 → x = nI b → F b = false) → Q (some (.int (nI 0))) I J (pR t g)) : pM l X yX3_loadFromBox mX3_loadFromBox 2 [.ref 41, .int x, .ref 33] pK pK I J (pR t g) Q := by
  refine pM_of rfl (fun h => by cases h) rfl pKM (Nat.le_of_ble_eq_true rfl) ?_
  rcases nI_or x with hx | ⟨b, hb, rfl⟩
  · refine pE_iload_n dX3_loadFromBox_0 rfl rfl ?_
    refine pE_if_lt (tgt := 18) dX3_loadFromBox_1 (by decide) (fun h1' => ?_) (fun h1' => ?_)
    · refine pE_iconst (v := nI 0) dX3_loadFromBox_18 rfl ?_
      refine pE_zret dX3_loadFromBox_19 rfl (by first | exact Or.inl nI_0 | exact Or.inr nI_1' | assumption) rfl ?_
      exact h0 (fun b hb e => by rw [e] at hx; exact absurd hx (nI_pos (by omega)))
    · exact absurd hx h1'
  · refine pE_iload_n dX3_loadFromBox_0 rfl rfl ?_
    refine pE_if_lt (tgt := 18) dX3_loadFromBox_1 (by decide) (fun h1' => ?_) (fun h1' => ?_)
    · exact absurd h1' (nI_pos (by omega))
    · refine pE_iload_n dX3_loadFromBox_4 rfl rfl ?_
      refine pE_iconst (v := nI 3) dX3_loadFromBox_5 rfl ?_
      refine pE_icmp_ge (tgt := 18) dX3_loadFromBox_6 (by decide) (fun h6 => ?_) (fun h6 => ?_)
      · have g6 := nq_le (by omega) (by omega) h6
        refine pE_iconst (v := nI 0) dX3_loadFromBox_18 rfl ?_
        refine pE_zret dX3_loadFromBox_19 rfl (by first | exact Or.inl nI_0 | exact Or.inr nI_1' | assumption) rfl ?_
        first | exact h0 (fun i hi e => by have := nq_eq hb (by omega) e; subst this; exact hf) | exact h0 (fun i hi e => by have := nq_eq hb (by omega) e; omega)
      · have g6 := nq_nle (by omega) (by omega) h6
        refine pE_aload_n dX3_loadFromBox_9 rfl rfl ?_
        refine pE_getR dX3_loadFromBox_10 flX3_28 rfl (by first | assumption | rfl) (by first | assumption | rfl) ?_
        refine pE_iload_n dX3_loadFromBox_13 rfl rfl ?_
        refine pE_zaloadN dX3_loadFromBox_14 (by first | assumption | rfl) (by first | assumption | omega) (by omega) ?_
        rw [(hB b (by omega)).1]
        have hlt : (if F b = true then 1 else 0) < 2 := by split <;> omega
        refine pE_if_ne (tgt := 20) dX3_loadFromBox_15 (by decide) (fun h15 => ?_) (fun h15 => ?_)
        · have g15 := nq_ne0 (by omega) h15
          have hf : F b = true := by
            cases e : F b with
            | true => rfl
            | false => rw [e] at g15; simp at g15
          refine pE_aload_n dX3_loadFromBox_20 rfl rfl ?_
          refine pE_aload_n dX3_loadFromBox_21 rfl rfl ?_
          refine pE_getR dX3_loadFromBox_22 flX3_25 rfl (by first | assumption | rfl) (by first | assumption | rfl) ?_
          refine pE_iload_n dX3_loadFromBox_25 rfl rfl ?_
          refine pE_callV (d' := 1) (as := [_, _]) dX3_loadFromBox_26 lkX3_40 (cwX9_loadFrom _ _) ivX9_loadFrom ⟨_, rfl, rfl⟩ (by first | assumption | rfl) rfl rfl (Nat.le_of_ble_eq_true rfl) (by decide) pKK ?_
          refine M_X9_loadFrom (k := b) (T := B b) ((hB b (by omega)).2 hf) rfl (by omega) (by omega) (Or.inr rfl) (fun I1 hx hT => ?_)
          refine pE_iconst (v := nI 1) dX3_loadFromBox_29 rfl ?_
          refine pE_zret dX3_loadFromBox_30 rfl (by first | exact Or.inl nI_0 | exact Or.inr nI_1' | assumption) rfl ?_
          exact h1 b (by omega) rfl hf I1 hx hT
        · have g15 := nq_eq0 (by omega) h15
          have hf : F b = false := by
            cases e : F b with
            | false => rfl
            | true => rw [e] at g15; simp at g15
          refine pE_iconst (v := nI 0) dX3_loadFromBox_18 rfl ?_
          refine pE_zret dX3_loadFromBox_19 rfl (by first | exact Or.inl nI_0 | exact Or.inr nI_1' | assumption) rfl ?_
          first | exact h0 (fun i hi e => by have := nq_eq hb (by omega) e; subst this; exact hf) | exact h0 (fun i hi e => by have := nq_eq hb (by omega) e; omega)
set_option maxHeartbeats 4000000 in
set_option maxRecDepth 100000 in
theorem M_X11_undo {l : Launch} {X : pX} {t g : Nat} {I : pHI} {J : pHJ} {Q : pQ} {od d u : Nat} {G : Nat → pN} (hK : cK I od d u G) (h1 : 0 < d → ∀ I1, (∀ c k, ¬ scF c k → ¬ (33 ≤ c ∧ c ≤ 36) → c ≠ 41 → I1 c k = I c k) → cK I1 od (d - 1) (u + 1) G → cS 33 (G (d - 1)) I1 → Q (some (.int (nI 1))) I1 J (pR t g)) (h0 : d = 0 → Q (some (.int (nI 0))) I J (pR t g)) : pM l X yX11_undo mX11_undo 3 [.ref 0] pK pK I J (pR t g) Q := by
  refine pM_of rfl (fun h => by cases h) rfl pKM (Nat.le_of_ble_eq_true rfl) ?_
  refine pE_aload_n dX11_undo_0 rfl rfl ?_
  refine pE_getR dX11_undo_1 flX11_49 rfl (by first | assumption | rfl) (by first | assumption | rfl) ?_
  refine pE_aload_n dX11_undo_4 rfl rfl ?_
  refine pE_getR dX11_undo_5 flX11_39 rfl (by first | assumption | rfl) (by first | assumption | rfl) ?_
  refine pE_callV (d' := 2) (as := [_]) dX11_undo_8 lkX11_195 (cwX3_takeBack _ _) ivX3_takeBack ⟨_, rfl, rfl⟩ (by first | assumption | rfl) rfl rfl (Nat.le_of_ble_eq_true rfl) (by decide) pKK ?_
  refine M_X3_takeBack hK (fun hp I1 hx hK1 hS => ?_) (fun hp => ?_)
  · refine pE_zret dX11_undo_11 rfl (by first | exact Or.inl nI_0 | exact Or.inr nI_1' | assumption) rfl ?_
    first | exact h1 hp I1 hx hK1 hS | exact h0 hp
  · refine pE_zret dX11_undo_11 rfl (by first | exact Or.inl nI_0 | exact Or.inr nI_1' | assumption) rfl ?_
    first | exact h1 hp I1 hx hK1 hS | exact h0 hp
set_option maxHeartbeats 4000000 in
set_option maxRecDepth 100000 in
theorem M_X11_redo {l : Launch} {X : pX} {t g : Nat} {I : pHI} {J : pHJ} {Q : pQ} {od d u : Nat} {G : Nat → pN} (hK : cK I od d u G) (h1 : 0 < u → ∀ I1, (∀ c k, ¬ scF c k → ¬ (33 ≤ c ∧ c ≤ 36) → c ≠ 41 → I1 c k = I c k) → cK I1 od (d + 1) (u - 1) G → cS 33 (G (d + 1)) I1 → Q (some (.int (nI 1))) I1 J (pR t g)) (h0 : u = 0 → Q (some (.int (nI 0))) I J (pR t g)) : pM l X yX11_redo mX11_redo 3 [.ref 0] pK pK I J (pR t g) Q := by
  refine pM_of rfl (fun h => by cases h) rfl pKM (Nat.le_of_ble_eq_true rfl) ?_
  refine pE_aload_n dX11_redo_0 rfl rfl ?_
  refine pE_getR dX11_redo_1 flX11_49 rfl (by first | assumption | rfl) (by first | assumption | rfl) ?_
  refine pE_aload_n dX11_redo_4 rfl rfl ?_
  refine pE_getR dX11_redo_5 flX11_39 rfl (by first | assumption | rfl) (by first | assumption | rfl) ?_
  refine pE_callV (d' := 2) (as := [_]) dX11_redo_8 lkX11_199 (cwX3_doAgain _ _) ivX3_doAgain ⟨_, rfl, rfl⟩ (by first | assumption | rfl) rfl rfl (Nat.le_of_ble_eq_true rfl) (by decide) pKK ?_
  refine M_X3_doAgain hK (fun hp I1 hx hK1 hS => ?_) (fun hp => ?_)
  · refine pE_zret dX11_redo_11 rfl (by first | exact Or.inl nI_0 | exact Or.inr nI_1' | assumption) rfl ?_
    first | exact h1 hp I1 hx hK1 hS | exact h0 hp
  · refine pE_zret dX11_redo_11 rfl (by first | exact Or.inl nI_0 | exact Or.inr nI_1' | assumption) rfl ?_
    first | exact h1 hp I1 hx hK1 hS | exact h0 hp
set_option maxHeartbeats 4000000 in
set_option maxRecDepth 100000 in
theorem M_X11_image {l : Launch} {X : pX} {t g : Nat} {I : pHI} {J : pHJ} {Q : pQ} {x : Int32} {T : pN} {F : Nat → Bool} {B : Nat → pN} (hS : cS 33 T I) (hB : cB 44 43 I F B) (h1 : ∀ b, b < 3 → x = nI b → ∀ I1, (∀ c k, c ≠ 43 → c ≠ 44 → I1 c k = I c k) → cB 44 43 I1 (fun i => F i || decide (i = b)) (fun i => if i = b then T else B i) → Q (some (.int (nI (T 26)))) I1 J (pR t g)) (h0 : (∀ b, b < 3 → x ≠ nI b) → Q (some (.int (-1))) I J (pR t g)) : pM l X yX11_image mX11_image 3 [.ref 0, .int x] pK pK I J (pR t g) Q := by
  refine pM_of rfl (fun h => by cases h) rfl pKM (Nat.le_of_ble_eq_true rfl) ?_
  refine pE_aload_n dX11_image_0 rfl rfl ?_
  refine pE_getR dX11_image_1 flX11_49 rfl (by first | assumption | rfl) (by first | assumption | rfl) ?_
  refine pE_iload_n dX11_image_4 rfl rfl ?_
  refine pE_aload_n dX11_image_5 rfl rfl ?_
  refine pE_getR dX11_image_6 flX11_39 rfl (by first | assumption | rfl) (by first | assumption | rfl) ?_
  refine pE_callV (d' := 2) (as := [_, _]) dX11_image_9 lkX11_337 (cwX3_keepInBox _ _) ivX3_keepInBox ⟨_, rfl, rfl⟩ (by first | assumption | rfl) rfl rfl (Nat.le_of_ble_eq_true rfl) (by decide) pKK ?_
  refine M_X3_keepInBox hS hB (fun b hb e I1 hx hB1 => ?_) (fun hno => ?_)
  · refine pE_if_eq_f (tgt := 25) dX11_image_12 (by decide) nI_1n0 ?_
    refine pE_aload_n dX11_image_15 rfl rfl ?_
    refine pE_getR dX11_image_16 flX11_39 rfl (by first | assumption | rfl) (by first | assumption | rfl) ?_
    refine pE_getI dX11_image_19 flX11_186 rfl (Or.inl rfl) (by first | assumption | rfl) ?_
    rw [hx 33 5 (by decide) (by decide), hS.2.2.1]
    refine pE_goto (tgt := 26) dX11_image_22 (by decide) ?_
    refine pE_iret dX11_image_26 rfl rfl ?_
    first | exact h1 b hb e I1 hx hB1 | exact h0 hno
  · refine pE_if_eq_t (tgt := 25) dX11_image_12 (by decide) nI_0 ?_
    refine pE_iconst (v := -1) dX11_image_25 rfl ?_
    refine pE_iret dX11_image_26 rfl rfl ?_
    first | exact h1 b hb e I1 hx hB1 | exact h0 hno
set_option maxHeartbeats 4000000 in
set_option maxRecDepth 100000 in
theorem M_X11_back {l : Launch} {X : pX} {t g : Nat} {I : pHI} {J : pHJ} {Q : pQ} {x : Int32} {F : Nat → Bool} {B : Nat → pN} (hB : cB 44 43 I F B) (h1 : ∀ b, b < 3 → x = nI b → F b = true → ∀ I1, sK I I1 → cS 33 (B b) I1 → cK I1 0 0 0 (fun _ => B b) → Q (some (.int (nI (B b 26)))) I1 J (pR t g)) (h0 : (∀ b, b < 3 → x = nI b → F b = false) → Q (some (.int (-1))) I J (pR t g)) : pM l X yX11_back mX11_back 3 [.ref 0, .int x] pK pK I J (pR t g) Q := by
  refine pM_of rfl (fun h => by cases h) rfl pKM (Nat.le_of_ble_eq_true rfl) ?_
  refine pE_aload_n dX11_back_0 rfl rfl ?_
  refine pE_getR dX11_back_1 flX11_49 rfl (by first | assumption | rfl) (by first | assumption | rfl) ?_
  refine pE_iload_n dX11_back_4 rfl rfl ?_
  refine pE_aload_n dX11_back_5 rfl rfl ?_
  refine pE_getR dX11_back_6 flX11_39 rfl (by first | assumption | rfl) (by first | assumption | rfl) ?_
  refine pE_callV (d' := 2) (as := [_, _]) dX11_back_9 lkX11_341 (cwX3_loadFromBox _ _) ivX3_loadFromBox ⟨_, rfl, rfl⟩ (by first | assumption | rfl) rfl rfl (Nat.le_of_ble_eq_true rfl) (by decide) pKK ?_
  refine M_X3_loadFromBox hB (fun b hb e hf I1 hx hS => ?_) (fun hno => ?_)
  · refine pE_if_ne_t (tgt := 17) dX11_back_12 (by decide) nI_1n0 ?_
    refine pE_aload_n dX11_back_17 rfl rfl ?_
    refine pE_getR dX11_back_18 flX11_49 rfl (by first | assumption | rfl) (by first | assumption | rfl) ?_
    refine pE_aload_n dX11_back_21 rfl rfl ?_
    refine pE_getR dX11_back_22 flX11_39 rfl (by first | assumption | rfl) (by first | assumption | rfl) ?_
    refine pE_callV (d' := 2) (as := [_]) dX11_back_25 lkX11_92 (cwX3_restart _ _) ivX3_restart ⟨_, rfl, rfl⟩ (by first | assumption | rfl) rfl rfl (Nat.le_of_ble_eq_true rfl) (by decide) pKK ?_
    refine M_X3_restart hS (fun I2 hx2 hK2 => ?_)
    refine pE_aload_n dX11_back_28 rfl rfl ?_
    refine pE_getR dX11_back_29 flX11_39 rfl (by first | assumption | rfl) (by first | assumption | rfl) ?_
    refine pE_getI dX11_back_32 flX11_186 rfl (Or.inl rfl) (by first | assumption | rfl) ?_
    rw [(hS.sk hx2).2.2.1]
    refine pE_iret dX11_back_35 rfl rfl ?_
    exact h1 b hb e hf I2 (hx.sK.tr hx2.sK) (hS.sk hx2) hK2
  · refine pE_if_ne_f (tgt := 17) dX11_back_12 (by decide) nI_0 ?_
    refine pE_iconst (v := -1) dX11_back_15 rfl ?_
    refine pE_iret dX11_back_16 rfl rfl ?_
    exact h0 hno
