theorem rf_y {M : pMk} {k : Int32} {m a lo hi : Nat} {H : pN} (h : runP M k m (H (24 + a)) (H (16 + a)) lo hi) : rnF M k m H a lo hi = true := dcd_t h
theorem rf_n {M : pMk} {k : Int32} {m a lo hi : Nat} {H : pN} (h : ¬ runP M k m (H (24 + a)) (H (16 + a)) lo hi) : rnF M k m H a lo hi = false := dcd_f h
theorem mM.sz {I I' : pHI} {m u : Nat} {M : pMk} (h : mM I m u M) (f : sz I I') : mM I' m u M := by
  obtain ⟨h1, h2, h3⟩ := h
  refine ⟨by rw [f 67 64 (by simp [scF]) (by simp [scM])]; exact h1, by rw [f 67 65 (by simp [scF]) (by simp [scM])]; exact h2, fun i hi => ?_⟩
  rw [f 101 i (by simp [scF]) (by simp [scM]), f 105 i (by simp [scF]) (by simp [scM]), f 102 i (by simp [scF]) (by simp [scM]), f 103 i (by simp [scF]) (by simp [scM]), f 104 i (by simp [scF]) (by simp [scM])]
  exact h3 i hi
theorem szp106 {I I1 : pHI} {k : Nat} {x : Int32} (h : sz I I1) : sz I (pu I1 106 k x) := h.pu (by simp [scM])
set_option maxHeartbeats 400000 in
set_option maxRecDepth 100000 in
theorem LI_X12_runsOf {l : Launch} {X : pX} {t g : Nat} {I : pHI} {J : pHJ} {Q : pQ} {a lo c0 : Nat} {k : Int32} {m u : Nat} {M : pMk} {H : pN} (hH : mH H I) (hr : rH H) (hM : mM I m u M) (hrM : rM H m u M) (ha : a < H 1) (hlo : lo < H 0) (hq : ∀ y5, pE l X mX12_runsOf 2 pK 51 [some (.ref 67), some (.int (nI a)), some (.int k), some (.int (nI (c0 + c1N (rnF M k m H a) lo (H 0 - lo)))), some (.int (nI lo)), some (.int (y5))] [] pK I J (pR t g) Q) : ∀ (fu : Nat) (j : Nat), H 0 - lo - j < fu → (j ≤ H 0 - lo) → pE l X mX12_runsOf 2 pK 20 [some (.ref 67), some (.int (nI a)), some (.int k), some (.int (nI (c0 + c1N (rnF M k m H a) lo j))), some (.int (nI lo)), some (.int (nI (lo + 1 + j)))] [] pK I J (pR t g) Q := by
  intro fu
  induction fu with
  | zero => intro j hn; exact absurd hn (Nat.not_lt_zero _)
  | succ fu ih =>
    intro j hn hj
    have hn8 := hr.2.1
    have hn20 := hr.1.2
    refine pE_iload dX12_runsOf_20 rfl ?_
    refine pE_aload_n dX12_runsOf_22 rfl rfl ?_
    refine pE_getI dX12_runsOf_23 flX12_82 rfl (Or.inl rfl) (by first | assumption | rfl) ?_
    rw [hH.1]
    refine pE_icmp_gt (tgt := 51) dX12_runsOf_26 (by decide) (fun h26 => ?_) (fun h26 => ?_)
    · have g26 := nq_lt (by omega) (by omega) h26
      obtain rfl : j = H 0 - lo := by omega
      exact hq _
    · have g26 := nq_nlt (by omega) (by omega) h26
      refine pE_iload_n dX12_runsOf_29 rfl rfl ?_
      refine pE_aload_n dX12_runsOf_30 rfl rfl ?_
      refine pE_iload_n dX12_runsOf_31 rfl rfl ?_
      refine pE_iload dX12_runsOf_32 rfl ?_
      refine pE_iload dX12_runsOf_34 rfl ?_
      refine pE_iload_n dX12_runsOf_36 rfl rfl ?_
      refine pE_callV (d' := 1) (as := [_, _, _, _]) dX12_runsOf_37 lkX12_493 (cwX12_isRun _ _) ivX12_isRun ⟨_, rfl, rfl⟩ (by first | assumption | rfl) rfl rfl (Nat.le_of_ble_eq_true rfl) (by decide) pKK ?_
      refine M_X12_isRun hH hr hM hrM ha (by omega) (by omega) (fun kr => ?_) (fun kr => ?_)
      · refine pE_callS (d' := 0) (as := [_]) dX12_runsOf_40 lkX12_304 (cwX12_truth _ _) svX12_truth rfl rfl (Nat.le_of_ble_eq_true rfl) (by decide) pKK ?_
        refine M_X12_truth (by first | exact Or.inl rfl | exact Or.inr rfl) ?_
        refine pE_iaddN dX12_runsOf_43 ?_
        refine pE_istore_n (lc' := [_, _, _, some (.int _), _, _]) dX12_runsOf_44 rfl (Nat.le_of_ble_eq_true rfl) rfl rfl ?_
        refine pE_iincN (c0 := 1) (lc' := [_, _, _, _, _, some (.int _)]) dX12_runsOf_45 rfl rfl rfl rfl ?_
        refine pE_goto (tgt := 20) dX12_runsOf_48 (by decide) ?_
        refine pE_cg (ih (j + 1) (by omega) (by omega)) (by
            first | (simp only [c1N, rf_y kr, Bool.toNat_true]; rfl) | (simp only [c1N, rf_n kr, Bool.toNat_false]; rfl)) rfl rfl rfl rfl
      · refine pE_callS (d' := 0) (as := [_]) dX12_runsOf_40 lkX12_304 (cwX12_truth _ _) svX12_truth rfl rfl (Nat.le_of_ble_eq_true rfl) (by decide) pKK ?_
        refine M_X12_truth (by first | exact Or.inl rfl | exact Or.inr rfl) ?_
        refine pE_iaddN dX12_runsOf_43 ?_
        refine pE_istore_n (lc' := [_, _, _, some (.int _), _, _]) dX12_runsOf_44 rfl (Nat.le_of_ble_eq_true rfl) rfl rfl ?_
        refine pE_iincN (c0 := 1) (lc' := [_, _, _, _, _, some (.int _)]) dX12_runsOf_45 rfl rfl rfl rfl ?_
        refine pE_goto (tgt := 20) dX12_runsOf_48 (by decide) ?_
        refine pE_cg (ih (j + 1) (by omega) (by omega)) (by
            first | (simp only [c1N, rf_y kr, Bool.toNat_true]; rfl) | (simp only [c1N, rf_n kr, Bool.toNat_false]; rfl)) rfl rfl rfl rfl
set_option maxHeartbeats 400000 in
set_option maxRecDepth 100000 in
theorem L_X12_runsOf {l : Launch} {X : pX} {t g : Nat} {I : pHI} {J : pHJ} {Q : pQ} {a : Nat} {k : Int32} {m u : Nat} {M : pMk} {H : pN} (hH : mH H I) (hr : rH H) (hM : mM I m u M) (hrM : rM H m u M) (ha : a < H 1) (hq : Q (some (.int (nI (rnN M k m H a)))) I J (pR t g)) : ∀ (fu : Nat) (j : Nat) (v5 : Option Value), H 0 - j < fu → (j ≤ H 0) → pE l X mX12_runsOf 2 pK 5 [some (.ref 67), some (.int (nI a)), some (.int k), some (.int (nI (c2N (rnF M k m H a) (H 0) j))), some (.int (nI j)), v5] [] pK I J (pR t g) Q := by
  intro fu
  induction fu with
  | zero => intro j v5 hn; exact absurd hn (Nat.not_lt_zero _)
  | succ fu ih =>
    intro j v5 hn hj
    have hn8 := hr.2.1
    have hn20 := hr.1.2
    refine pE_iload dX12_runsOf_5 rfl ?_
    refine pE_aload_n dX12_runsOf_7 rfl rfl ?_
    refine pE_getI dX12_runsOf_8 flX12_82 rfl (Or.inl rfl) (by first | assumption | rfl) ?_
    rw [hH.1]
    refine pE_icmp_ge (tgt := 57) dX12_runsOf_11 (by decide) (fun h11 => ?_) (fun h11 => ?_)
    · have g11 := nq_le (by omega) (by omega) h11
      refine pE_iload_n dX12_runsOf_57 rfl rfl ?_
      refine pE_iret dX12_runsOf_58 rfl rfl ?_
      obtain rfl : j = H 0 := by omega
      exact hq
    · have g11 := nq_nle (by omega) (by omega) h11
      refine pE_iload dX12_runsOf_14 rfl ?_
      refine pE_iconst (v := nI 1) dX12_runsOf_16 rfl ?_
      refine pE_iaddN dX12_runsOf_17 ?_
      refine pE_istore (lc' := [_, _, _, _, _, some (.int _)]) dX12_runsOf_18 (Nat.le_of_ble_eq_true rfl) rfl rfl ?_
      refine LI_X12_runsOf hH hr hM hrM ha (by omega) (fun y5 => ?_) (H 0 + 1) 0 (by omega) (by omega)
      refine pE_iincN (c0 := 1) (lc' := [_, _, _, _, some (.int _), _]) dX12_runsOf_51 rfl rfl rfl rfl ?_
      refine pE_goto (tgt := 5) dX12_runsOf_54 (by decide) ?_
      exact ih (j + 1) _ (by omega) (by omega)
set_option maxHeartbeats 400000 in
set_option maxRecDepth 100000 in
theorem M_X12_runsOf {l : Launch} {X : pX} {t g : Nat} {I : pHI} {J : pHJ} {Q : pQ} {a : Nat} {k : Int32} {m u : Nat} {M : pMk} {H : pN} (hH : mH H I) (hr : rH H) (hM : mM I m u M) (hrM : rM H m u M) (ha : a < H 1) (hq : Q (some (.int (nI (rnN M k m H a)))) I J (pR t g)) : pM l X yX12_runsOf mX12_runsOf 2 [.ref 67, .int (nI a), .int k] pK pK I J (pR t g) Q := by
  refine pM_of rfl (fun h => by cases h) rfl pKM (Nat.le_of_ble_eq_true rfl) ?_
  refine pE_iconst (v := nI 0) dX12_runsOf_0 rfl ?_
  refine pE_istore_n (lc' := [_, _, _, some (.int _), _, _]) dX12_runsOf_1 rfl (Nat.le_of_ble_eq_true rfl) rfl rfl ?_
  refine pE_iconst (v := nI 0) dX12_runsOf_2 rfl ?_
  refine pE_istore (lc' := [_, _, _, _, some (.int _), _]) dX12_runsOf_3 (Nat.le_of_ble_eq_true rfl) rfl rfl ?_
  exact L_X12_runsOf hH hr hM hrM ha hq (H 0 + 1) 0 _ (by omega) (by omega)
set_option maxHeartbeats 400000 in
set_option maxRecDepth 100000 in
theorem L_X12_runs {l : Launch} {X : pX} {t g : Nat} {I : pHI} {J : pHJ} {Q : pQ} {k : Int32} {m u : Nat} {M : pMk} {H : pN} (hH : mH H I) (hr : rH H) (hM : mM I m u M) (hrM : rM H m u M) (hq : Q (some (.int (nI (runR M k m H)))) I J (pR t g)) : ∀ (fu j : Nat), H 1 - j < fu → j ≤ H 1 → pE l X mX12_runs 3 pK 4 [some (.ref 67), some (.int k), some (.int (nI (sumN (rnN M k m H) j))), some (.int (nI j))] [] pK I J (pR t g) Q := by
  intro fu
  induction fu with
  | zero => intro j hn hj; exact absurd hn (Nat.not_lt_zero _)
  | succ fu ih =>
    intro j hn hj
    have hn8 := hr.2.1
    have hn20 := hr.1.2
    refine pE_iload_n dX12_runs_4 rfl rfl ?_
    refine pE_aload_n dX12_runs_5 rfl rfl ?_
    refine pE_getI dX12_runs_6 flX12_350 rfl (Or.inl rfl) (by first | assumption | rfl) ?_
    rw [hH.2.1]
    refine pE_icmp_ge (tgt := 27) dX12_runs_9 (by decide) (fun h9 => ?_) (fun h9 => ?_)
    · have g9 := nq_le (by omega) (by omega) h9
      refine pE_iload_n dX12_runs_27 rfl rfl ?_
      refine pE_iret dX12_runs_28 rfl rfl ?_
      obtain rfl : j = H 1 := by omega
      exact hq
    · have g9 := nq_nle (by omega) (by omega) h9
      refine pE_iload_n dX12_runs_12 rfl rfl ?_
      refine pE_aload_n dX12_runs_13 rfl rfl ?_
      refine pE_iload_n dX12_runs_14 rfl rfl ?_
      refine pE_iload_n dX12_runs_15 rfl rfl ?_
      refine pE_callV (d' := 2) (as := [_, _]) dX12_runs_16 lkX12_496 (cwX12_runsOf _ _) ivX12_runsOf ⟨_, rfl, rfl⟩ (by first | assumption | rfl) rfl rfl (Nat.le_of_ble_eq_true rfl) (by decide) pKK ?_
      refine M_X12_runsOf hH hr hM hrM (by omega) ?_
      refine pE_iaddN dX12_runs_19 ?_
      refine pE_istore_n (lc' := [_, _, some (.int _), _]) dX12_runs_20 rfl (Nat.le_of_ble_eq_true rfl) rfl rfl ?_
      refine pE_iincN (c0 := 1) (lc' := [_, _, _, some (.int _)]) dX12_runs_21 rfl rfl rfl rfl ?_
      refine pE_goto (tgt := 4) dX12_runs_24 (by decide) ?_
      exact ih (j + 1) (by omega) (by omega)
set_option maxHeartbeats 400000 in
set_option maxRecDepth 100000 in
theorem M_X12_runs {l : Launch} {X : pX} {t g : Nat} {I : pHI} {J : pHJ} {Q : pQ} {k : Int32} {m u : Nat} {M : pMk} {H : pN} (hH : mH H I) (hr : rH H) (hM : mM I m u M) (hrM : rM H m u M) (hq : Q (some (.int (nI (runR M k m H)))) I J (pR t g)) : pM l X yX12_runs mX12_runs 3 [.ref 67, .int k] pK pK I J (pR t g) Q := by
  refine pM_of rfl (fun h => by cases h) rfl pKM (Nat.le_of_ble_eq_true rfl) ?_
  refine pE_iconst (v := nI 0) dX12_runs_0 rfl ?_
  refine pE_istore_n (lc' := [_, _, some (.int _), _]) dX12_runs_1 rfl (Nat.le_of_ble_eq_true rfl) rfl rfl ?_
  refine pE_iconst (v := nI 0) dX12_runs_2 rfl ?_
  refine pE_istore_n (lc' := [_, _, _, some (.int _)]) dX12_runs_3 rfl (Nat.le_of_ble_eq_true rfl) rfl rfl ?_
  exact L_X12_runs hH hr hM hrM hq (H 1 + 1) 0 (by omega) (by omega)
set_option maxHeartbeats 400000 in
set_option maxRecDepth 100000 in
theorem L_X12_who {l : Launch} {X : pX} {t g : Nat} {I : pHI} {J : pHJ} {Q : pQ} {k : Int32} {m u : Nat} {M : pMk} {H : pN} (hH : mH H I) (hr : rH H) (hM : mM I m u M) (hrM : rM H m u M) (hq : Q (some (.int (runS M k m H))) I J (pR t g)) : ∀ (fu j : Nat), H 1 - j < fu → j ≤ H 1 → pE l X mX12_who 3 pK 4 [some (.ref 67), some (.int k), some (.int (setI (fun j => decide (0 < rnN M k m H j)) j)), some (.int (nI j))] [] pK I J (pR t g) Q := by
  intro fu
  induction fu with
  | zero => intro j hn hj; exact absurd hn (Nat.not_lt_zero _)
  | succ fu ih =>
    intro j hn hj
    have hn8 := hr.2.1
    have hn20 := hr.1.2
    have hrl := rn_le M k m hn20 j
    refine pE_iload_n dX12_who_4 rfl rfl ?_
    refine pE_aload_n dX12_who_5 rfl rfl ?_
    refine pE_getI dX12_who_6 flX12_350 rfl (Or.inl rfl) (by first | assumption | rfl) ?_
    rw [hH.2.1]
    refine pE_icmp_ge (tgt := 40) dX12_who_9 (by decide) (fun h9 => ?_) (fun h9 => ?_)
    · have g9 := nq_le (by omega) (by omega) h9
      refine pE_iload_n dX12_who_40 rfl rfl ?_
      refine pE_iret dX12_who_41 rfl rfl ?_
      obtain rfl : j = H 1 := by omega
      exact hq
    · have g9 := nq_nle (by omega) (by omega) h9
      refine pE_iload_n dX12_who_12 rfl rfl ?_
      refine pE_aload_n dX12_who_13 rfl rfl ?_
      refine pE_iload_n dX12_who_14 rfl rfl ?_
      refine pE_iload_n dX12_who_15 rfl rfl ?_
      refine pE_callV (d' := 2) (as := [_, _]) dX12_who_16 lkX12_496 (cwX12_runsOf _ _) ivX12_runsOf ⟨_, rfl, rfl⟩ (by first | assumption | rfl) rfl rfl (Nat.le_of_ble_eq_true rfl) (by decide) pKK ?_
      refine M_X12_runsOf hH hr hM hrM (by omega) ?_
      refine pE_if_le (tgt := 26) dX12_who_19 (by decide) (fun h19 => ?_) (fun h19 => ?_)
      · have g19 := nq_le0 (by omega) h19
        refine pE_iconst (v := nI 0) dX12_who_26 rfl ?_
        refine pE_callS (d' := 0) (as := [_]) dX12_who_27 lkX12_304 (cwX12_truth _ _) svX12_truth rfl rfl (Nat.le_of_ble_eq_true rfl) (by decide) pKK ?_
        refine M_X12_truth (by first | exact Or.inl rfl | exact Or.inr rfl) ?_
        refine pE_iload_n dX12_who_30 rfl rfl ?_
        refine pE_ishl dX12_who_31 ?_
        refine pE_ior dX12_who_32 ?_
        refine pE_istore_n (lc' := [_, _, some (.int _), _]) dX12_who_33 rfl (Nat.le_of_ble_eq_true rfl) rfl rfl ?_
        refine pE_iincN (c0 := 1) (lc' := [_, _, _, some (.int _)]) dX12_who_34 rfl rfl rfl rfl ?_
        refine pE_goto (tgt := 4) dX12_who_37 (by decide) ?_
        refine pE_cg (ih (j + 1) (by omega) (by omega)) (by
            simp only [setI, decide_eq_true_eq]
            first | (rw [if_pos g19]; first | done | rfl) | (rw [if_neg (by omega), or_sh0 _ (by omega)]; first | done | rfl)) rfl rfl rfl rfl
      · have g19 := nq_nle0 (by omega) h19
        refine pE_iconst (v := nI 1) dX12_who_22 rfl ?_
        refine pE_goto (tgt := 27) dX12_who_23 (by decide) ?_
        refine pE_callS (d' := 0) (as := [_]) dX12_who_27 lkX12_304 (cwX12_truth _ _) svX12_truth rfl rfl (Nat.le_of_ble_eq_true rfl) (by decide) pKK ?_
        refine M_X12_truth (by first | exact Or.inl rfl | exact Or.inr rfl) ?_
        refine pE_iload_n dX12_who_30 rfl rfl ?_
        refine pE_ishl dX12_who_31 ?_
        refine pE_ior dX12_who_32 ?_
        refine pE_istore_n (lc' := [_, _, some (.int _), _]) dX12_who_33 rfl (Nat.le_of_ble_eq_true rfl) rfl rfl ?_
        refine pE_iincN (c0 := 1) (lc' := [_, _, _, some (.int _)]) dX12_who_34 rfl rfl rfl rfl ?_
        refine pE_goto (tgt := 4) dX12_who_37 (by decide) ?_
        refine pE_cg (ih (j + 1) (by omega) (by omega)) (by
            simp only [setI, decide_eq_true_eq]
            first | (rw [if_pos g19]; first | done | rfl) | (rw [if_neg (by omega), or_sh0 _ (by omega)]; first | done | rfl)) rfl rfl rfl rfl
set_option maxHeartbeats 400000 in
set_option maxRecDepth 100000 in
theorem M_X12_who {l : Launch} {X : pX} {t g : Nat} {I : pHI} {J : pHJ} {Q : pQ} {k : Int32} {m u : Nat} {M : pMk} {H : pN} (hH : mH H I) (hr : rH H) (hM : mM I m u M) (hrM : rM H m u M) (hq : Q (some (.int (runS M k m H))) I J (pR t g)) : pM l X yX12_who mX12_who 3 [.ref 67, .int k] pK pK I J (pR t g) Q := by
  refine pM_of rfl (fun h => by cases h) rfl pKM (Nat.le_of_ble_eq_true rfl) ?_
  refine pE_iconst (v := nI 0) dX12_who_0 rfl ?_
  refine pE_istore_n (lc' := [_, _, some (.int _), _]) dX12_who_1 rfl (Nat.le_of_ble_eq_true rfl) rfl rfl ?_
  refine pE_iconst (v := nI 0) dX12_who_2 rfl ?_
  refine pE_istore_n (lc' := [_, _, _, some (.int _)]) dX12_who_3 rfl (Nat.le_of_ble_eq_true rfl) rfl rfl ?_
  exact L_X12_who hH hr hM hrM hq (H 1 + 1) 0 (by omega) (by omega)
set_option maxHeartbeats 400000 in
set_option maxRecDepth 100000 in
theorem LT_X12_ask {l : Launch} {X : pX} {t g : Nat} {I : pHI} {J : pHJ} {Q : pQ} {x k : Int32} {R a lo hi n0 : Nat} {Y : Nat → Nat} (hn0 : n0 ≤ 20) (hh : hi ≤ n0) (hl : lo ≤ hi) (hq : ∀ I2 y7, (∀ c k, c ≠ 106 → I2 c k = I c k) → (∀ s, s ≤ n0 → I2 106 s = nI (Y s + if lo ≤ s ∧ s ≤ hi then 1 else 0)) → pE l X mX12_ask 3 pK 115 [some (.ref 67), some (.int x), some (.int k), some (.int (nI R)), some (.int (nI a)), some (.int (nI lo)), some (.int (nI hi)), some (.int y7)] [] pK I2 J (pR t g) Q) : ∀ (fu : Nat) (j : Nat) (I1 : pHI), hi + 1 - j < fu → (j ≤ hi + 1) → (lo ≤ j) → (∀ c k, c ≠ 106 → I1 c k = I c k) → (∀ s, s ≤ n0 → I1 106 s = nI (Y s + if lo ≤ s ∧ s < j then 1 else 0)) → pE l X mX12_ask 3 pK 91 [some (.ref 67), some (.int x), some (.int k), some (.int (nI R)), some (.int (nI a)), some (.int (nI lo)), some (.int (nI hi)), some (.int (nI j))] [] pK I1 J (pR t g) Q := by
  intro fu
  induction fu with
  | zero => intro j I1 hn; exact absurd hn (Nat.not_lt_zero _)
  | succ fu ih =>
    intro j I1 hn hj hlj hf hv
    refine pE_iload dX12_ask_91 rfl ?_
    refine pE_iload dX12_ask_93 rfl ?_
    refine pE_icmp_gt (tgt := 115) dX12_ask_95 (by decide) (fun h95 => ?_) (fun h95 => ?_)
    · have g95 := nq_lt (by omega) (by omega) h95
      obtain rfl : j = hi + 1 := by omega
      exact hq _ _ hf (fun s hs => by rw [hv s hs]; congr 2; simp only [Nat.lt_succ_iff])
    · have g95 := nq_nlt (by omega) (by omega) h95
      refine pE_aload_n dX12_ask_98 rfl rfl ?_
      refine pE_getR dX12_ask_99 flX12_133 rfl (by first | assumption | rfl) (by first | assumption | rfl) ?_
      refine pE_iload dX12_ask_102 rfl ?_
      refine pE_dup2 dX12_ask_104 ?_
      refine pE_ialoadN dX12_ask_105 (by first | assumption | rfl) (by first | assumption | omega) (by omega) ?_
      rw [hv j (by omega)]
      refine pE_iconst (v := nI 1) dX12_ask_106 rfl ?_
      refine pE_iaddN dX12_ask_107 ?_
      refine pE_iastoreN dX12_ask_108 (by first | assumption | rfl) (by first | assumption | omega) (by omega) ?_
      refine pE_iincN (c0 := 1) (lc' := [_, _, _, _, _, _, _, some (.int _)]) dX12_ask_109 rfl rfl rfl rfl ?_
      refine pE_goto (tgt := 91) dX12_ask_112 (by decide) ?_
      refine ih (j + 1) _ (by omega) (by omega) (by omega) (fun c k hc => by rw [pu_ne _ _ _ hc]; exact hf c k hc) (fun s hs => ?_)
      rw [pu_at]
      by_cases e : s = j
      · subst e
        rw [if_pos ⟨rfl, rfl⟩, if_neg (by omega), if_pos (by omega)]
      · rw [if_neg (fun q => e q.2), hv s hs]
        by_cases c : lo ≤ s ∧ s < j
        · rw [if_pos c, if_pos (by omega)]
        · rw [if_neg c, if_neg (by omega)]
set_option maxHeartbeats 400000 in
set_option maxRecDepth 100000 in
theorem LI_X12_ask {l : Launch} {X : pX} {t g : Nat} {I : pHI} {J : pHJ} {Q : pQ} {x k : Int32} {R c0 a lo : Nat} {Y y0 : Nat → Nat} {m u : Nat} {M : pMk} {H : pN} (hH : mH H I) (hr : rH H) (hM : mM I m u M) (hrM : rM H m u M) (ha : a < H 1) (hlo : lo < H 0) (hq : ∀ I2 y6 v7, sz I I2 → (∀ s, s ≤ H 0 → I2 106 s = nI (Y s + (y0 s + c1N (wiB (rnF M k m H a) s) lo (H 0 - lo)))) → pE l X mX12_ask 3 pK 121 [some (.ref 67), some (.int x), some (.int k), some (.int (nI (R + (c0 + c1N (rnF M k m H a) lo (H 0 - lo))))), some (.int (nI a)), some (.int (nI lo)), some (.int y6), v7] [] pK I2 J (pR t g) Q) : ∀ (fu : Nat) (j : Nat) (I1 : pHI) (v7 : Option Value), H 0 - lo - j < fu → (j ≤ H 0 - lo) → (sz I I1) → (∀ s, s ≤ H 0 → I1 106 s = nI (Y s + (y0 s + c1N (wiB (rnF M k m H a) s) lo j))) → pE l X mX12_ask 3 pK 58 [some (.ref 67), some (.int x), some (.int k), some (.int (nI (R + (c0 + c1N (rnF M k m H a) lo j)))), some (.int (nI a)), some (.int (nI lo)), some (.int (nI (lo + 1 + j))), v7] [] pK I1 J (pR t g) Q := by
  intro fu
  induction fu with
  | zero => intro j I1 v7 hn; exact absurd hn (Nat.not_lt_zero _)
  | succ fu ih =>
    intro j I1 v7 hn hj hx hY
    have hn8 := hr.2.1
    have hn20 := hr.1.2
    have hH1 := hH.sz hx
    have hM1 := hM.sz hx
    refine pE_iload dX12_ask_58 rfl ?_
    refine pE_aload_n dX12_ask_60 rfl rfl ?_
    refine pE_getI dX12_ask_61 flX12_82 rfl (Or.inl rfl) (by first | assumption | rfl) ?_
    rw [hH1.1]
    refine pE_icmp_gt (tgt := 121) dX12_ask_64 (by decide) (fun h64 => ?_) (fun h64 => ?_)
    · have g64 := nq_lt (by omega) (by omega) h64
      obtain rfl : j = H 0 - lo := by omega
      exact hq _ _ _ hx hY
    · have g64 := nq_nlt (by omega) (by omega) h64
      refine pE_aload_n dX12_ask_67 rfl rfl ?_
      refine pE_iload dX12_ask_68 rfl ?_
      refine pE_iload dX12_ask_70 rfl ?_
      refine pE_iload dX12_ask_72 rfl ?_
      refine pE_iload_n dX12_ask_74 rfl rfl ?_
      refine pE_callV (d' := 1) (as := [_, _, _, _]) dX12_ask_75 lkX12_493 (cwX12_isRun _ _) ivX12_isRun ⟨_, rfl, rfl⟩ (by first | assumption | rfl) rfl rfl (Nat.le_of_ble_eq_true rfl) (by decide) pKK ?_
      refine M_X12_isRun hH1 hr hM1 hrM ha (by omega) (by omega) (fun kr => ?_) (fun kr => ?_)
      · refine pE_if_ne_t (tgt := 84) dX12_ask_78 (by decide) nI_1n0 ?_
        refine pE_iincN (c0 := 1) (lc' := [_, _, _, some (.int _), _, _, _, _]) dX12_ask_84 rfl rfl rfl rfl ?_
        refine pE_iload dX12_ask_87 rfl ?_
        refine pE_istore (lc' := [_, _, _, _, _, _, _, some (.int _)]) dX12_ask_89 (Nat.le_of_ble_eq_true rfl) rfl rfl ?_
        refine LT_X12_ask (I := I1) (Y := fun s => Y s + (y0 s + c1N (wiB (rnF M k m H a) s) lo j)) (n0 := H 0) (by omega) (by omega) (by omega) (fun I2 y7 f2 h2 => ?_) (lo + 1 + j + 1 - lo + 1) lo I1 (by omega) (by omega) (Nat.le_refl _) (fun _ _ _ => rfl) (fun s hs => by rw [if_neg (by omega)]; exact hY s hs)
        refine pE_iincN (c0 := 1) (lc' := [_, _, _, _, _, _, some (.int _), _]) dX12_ask_115 rfl rfl rfl rfl ?_
        refine pE_goto (tgt := 58) dX12_ask_118 (by decide) ?_
        refine pE_cg (ih (j + 1) I2 (some (.int y7)) (by omega) (by omega) (fun c k a b => (f2 c k (fun e => b (by subst e; simp [scM]))).trans (hx c k a b)) (fun s hs => ?_)) (by simp only [c1N, rf_y kr, Bool.toNat_true]; rfl) rfl rfl rfl rfl
        rw [h2 s hs]
        simp only [c1N, wiB, rf_y kr, Bool.true_and]
        congr 1
        by_cases c : lo ≤ s ∧ s ≤ lo + 1 + j
        · rw [if_pos c, decide_eq_true c.1, decide_eq_true c.2]; simp only [Bool.true_and, Bool.toNat_true]; omega
        · rw [if_neg c, show (decide (lo ≤ s) && decide (s ≤ lo + 1 + j)) = false by rw [← Bool.decide_and]; exact decide_eq_false c]; simp only [Bool.toNat_false]; omega
      · refine pE_if_ne_f (tgt := 84) dX12_ask_78 (by decide) nI_0 ?_
        refine pE_goto (tgt := 115) dX12_ask_81 (by decide) ?_
        refine pE_iincN (c0 := 1) (lc' := [_, _, _, _, _, _, some (.int _), _]) dX12_ask_115 rfl rfl rfl rfl ?_
        refine pE_goto (tgt := 58) dX12_ask_118 (by decide) ?_
        refine pE_cg (ih (j + 1) I1 v7 (by omega) (by omega) hx (fun s hs => ?_)) (by simp only [c1N, rf_n kr, Bool.toNat_false]; rfl) rfl rfl rfl rfl
        simp only [c1N, wiB, rf_n kr, Bool.false_and, Bool.toNat_false, Nat.add_zero]; exact hY s hs
set_option maxHeartbeats 400000 in
set_option maxRecDepth 100000 in
theorem LO_X12_ask {l : Launch} {X : pX} {t g : Nat} {I : pHI} {J : pHJ} {Q : pQ} {x k : Int32} {R a : Nat} {Y : Nat → Nat} {m u : Nat} {M : pMk} {H : pN} (hH : mH H I) (hr : rH H) (hM : mM I m u M) (hrM : rM H m u M) (ha : a < H 1) (hq : ∀ I2 y5 v6 v7, sz I I2 → (∀ s, s ≤ H 0 → I2 106 s = nI (Y s + c2N (wiB (rnF M k m H a) s) (H 0) (H 0))) → pE l X mX12_ask 3 pK 127 [some (.ref 67), some (.int x), some (.int k), some (.int (nI (R + c2N (rnF M k m H a) (H 0) (H 0)))), some (.int (nI a)), some (.int y5), v6, v7] [] pK I2 J (pR t g) Q) : ∀ (fu : Nat) (j : Nat) (I1 : pHI) (v6 : Option Value) (v7 : Option Value), H 0 - j < fu → (j ≤ H 0) → (sz I I1) → (∀ s, s ≤ H 0 → I1 106 s = nI (Y s + c2N (wiB (rnF M k m H a) s) (H 0) j)) → pE l X mX12_ask 3 pK 43 [some (.ref 67), some (.int x), some (.int k), some (.int (nI (R + c2N (rnF M k m H a) (H 0) j))), some (.int (nI a)), some (.int (nI j)), v6, v7] [] pK I1 J (pR t g) Q := by
  intro fu
  induction fu with
  | zero => intro j I1 v6 v7 hn; exact absurd hn (Nat.not_lt_zero _)
  | succ fu ih =>
    intro j I1 v6 v7 hn hj hx hY
    have hn8 := hr.2.1
    have hn20 := hr.1.2
    have hH1 := hH.sz hx
    have hM1 := hM.sz hx
    refine pE_iload dX12_ask_43 rfl ?_
    refine pE_aload_n dX12_ask_45 rfl rfl ?_
    refine pE_getI dX12_ask_46 flX12_82 rfl (Or.inl rfl) (by first | assumption | rfl) ?_
    rw [hH1.1]
    refine pE_icmp_ge (tgt := 127) dX12_ask_49 (by decide) (fun h49 => ?_) (fun h49 => ?_)
    · have g49 := nq_le (by omega) (by omega) h49
      obtain rfl : j = H 0 := by omega
      exact hq _ _ _ _ hx hY
    · have g49 := nq_nle (by omega) (by omega) h49
      refine pE_iload dX12_ask_52 rfl ?_
      refine pE_iconst (v := nI 1) dX12_ask_54 rfl ?_
      refine pE_iaddN dX12_ask_55 ?_
      refine pE_istore (lc' := [_, _, _, _, _, _, some (.int _), _]) dX12_ask_56 (Nat.le_of_ble_eq_true rfl) rfl rfl ?_
      refine LI_X12_ask (I := I1) (R := R) (c0 := c2N (rnF M k m H a) (H 0) j) (Y := fun s => Y s) (y0 := fun s => c2N (wiB (rnF M k m H a) s) (H 0) j) hH1 hr hM1 hrM ha (by omega) (fun I2 y6 v7' x2 h2 => ?_) (H 0 + 1) 0 I1 _ (by omega) (by omega) sz.rf hY
      refine pE_iincN (c0 := 1) (lc' := [_, _, _, _, _, some (.int _), _, _]) dX12_ask_121 rfl rfl rfl rfl ?_
      refine pE_goto (tgt := 43) dX12_ask_124 (by decide) ?_
      exact ih (j + 1) I2 _ _ (by omega) (by omega) (hx.tr x2) h2
set_option maxHeartbeats 400000 in
set_option maxRecDepth 100000 in
theorem LE_X12_ask {l : Launch} {X : pX} {t g : Nat} {I : pHI} {J : pHJ} {Q : pQ} {w : Nat} {k : Int32} {m : Nat} {M : pMk} {H : pN} (hH : mH H I) (hr : rH H) (hw : w ≤ 1) (hY : ∀ s, s ≤ H 0 → I 106 s = nI (runY M k m H s)) (hq : Q (some (.int (askA (askF M k m H) (lsN (askF M k m H) (H 0 + 1)) w))) I J (pR t g)) : ∀ (fu j : Nat) (v7 : Option Value), H 0 + 1 - j < fu → j ≤ H 0 + 1 → pE l X mX12_ask 3 pK 159 [some (.ref 67), some (.int (nI w)), some (.int k), some (.int (nI (runR M k m H))), some (.int (oI (lsN (askF M k m H) j))), some (.int (nI (lsF (askF M k m H) (runR M k m H + 1) (lsN (askF M k m H) j)))), some (.int (nI j)), v7] [] pK I J (pR t g) Q := by
  have hn8 := hr.2.1
  have hn20 := hr.1.2
  have hR3 := runR_le M k m (H := H) hn8 hn20
  have hYR := runY_le M k m H
  have hFR := askF_le M k m H
  intro fu
  induction fu with
  | zero => intro j v7 hn; exact absurd hn (Nat.not_lt_zero _)
  | succ fu ih =>
    intro j v7 hn hj
    have hYj := hYR j
    have hFj := hFR j
    have hFd : askF M k m H j = max (runY M k m H j) (runR M k m H - runY M k m H j) := rfl
    cases e : lsN (askF M k m H) j with
    | none =>
      have hj0 := ls_none e
      rw [show oI none = (-1 : Int32) from rfl, show lsF (askF M k m H) (runR M k m H + 1) none = runR M k m H + 1 from rfl]
      refine pE_iload dX12_ask_159 rfl ?_
      refine pE_aload_n dX12_ask_161 rfl rfl ?_
      refine pE_getI dX12_ask_162 flX12_82 rfl (Or.inl rfl) (by first | assumption | rfl) ?_
      rw [hH.1]
      refine pE_icmp_gt (tgt := 232) dX12_ask_165 (by decide) (fun h165 => ?_) (fun h165 => ?_)
      · have g165 := nq_lt (by omega) (by omega) h165
        omega
      · have g165 := nq_nlt (by omega) (by omega) h165
        refine pE_aload_n dX12_ask_168 rfl rfl ?_
        refine pE_getR dX12_ask_169 flX12_133 rfl (by first | assumption | rfl) (by first | assumption | rfl) ?_
        refine pE_iload dX12_ask_172 rfl ?_
        refine pE_ialoadN dX12_ask_174 (by first | assumption | rfl) (by first | assumption | omega) (by omega) ?_
        rw [hY j (by omega)]
        refine pE_iload_n dX12_ask_175 rfl rfl ?_
        refine pE_aload_n dX12_ask_176 rfl rfl ?_
        refine pE_getR dX12_ask_177 flX12_133 rfl (by first | assumption | rfl) (by first | assumption | rfl) ?_
        refine pE_iload dX12_ask_180 rfl ?_
        refine pE_ialoadN dX12_ask_182 (by first | assumption | rfl) (by first | assumption | omega) (by omega) ?_
        rw [hY j (by omega)]
        refine pE_isubN dX12_ask_183 (by omega) ?_
        refine pE_icmp_le (tgt := 197) dX12_ask_184 (by decide) (fun h184 => ?_) (fun h184 => ?_)
        · have g184 := nq_le (by omega) (by omega) h184
          refine pE_iload_n dX12_ask_197 rfl rfl ?_
          refine pE_aload_n dX12_ask_198 rfl rfl ?_
          refine pE_getR dX12_ask_199 flX12_133 rfl (by first | assumption | rfl) (by first | assumption | rfl) ?_
          refine pE_iload dX12_ask_202 rfl ?_
          refine pE_ialoadN dX12_ask_204 (by first | assumption | rfl) (by first | assumption | omega) (by omega) ?_
          rw [hY j (by omega)]
          refine pE_isubN dX12_ask_205 (by omega) ?_
          refine pE_istore (lc' := [_, _, _, _, _, _, _, some (.int _)]) dX12_ask_206 (Nat.le_of_ble_eq_true rfl) rfl rfl ?_
          refine pE_iload dX12_ask_208 rfl ?_
          refine pE_iload dX12_ask_210 rfl ?_
          refine pE_icmp_lt (tgt := 218) dX12_ask_212 (by decide) (fun h212 => ?_) (fun h212 => ?_)
          · have g212 := nq_lt (by omega) (by omega) h212
            refine pE_iload dX12_ask_218 rfl ?_
            refine pE_istore (lc' := [_, _, _, _, some (.int _), _, _, _]) dX12_ask_220 (Nat.le_of_ble_eq_true rfl) rfl rfl ?_
            refine pE_iload dX12_ask_222 rfl ?_
            refine pE_istore (lc' := [_, _, _, _, _, some (.int _), _, _]) dX12_ask_224 (Nat.le_of_ble_eq_true rfl) rfl rfl ?_
            refine pE_iincN (c0 := 1) (lc' := [_, _, _, _, _, _, some (.int _), _]) dX12_ask_226 rfl rfl rfl rfl ?_
            refine pE_goto (tgt := 159) dX12_ask_229 (by decide) ?_
            first
            | (have eF : askF M k m H j = runY M k m H j := by omega
               exact pE_cg (ih (j + 1) (some (.int (nI (runY M k m H j)))) (by omega) (by omega)) (by rw [ls_0 e, show lsF (askF M k m H) (runR M k m H + 1) (some j) = runY M k m H j from eF]; rfl) rfl rfl rfl rfl)
            | (have eF : askF M k m H j = runR M k m H - runY M k m H j := by omega
               exact pE_cg (ih (j + 1) (some (.int (nI (runR M k m H - runY M k m H j)))) (by omega) (by omega)) (by rw [ls_0 e, show lsF (askF M k m H) (runR M k m H + 1) (some j) = runR M k m H - runY M k m H j from eF]; rfl) rfl rfl rfl rfl)
          · have g212 := nq_nlt (by omega) (by omega) h212
            omega
        · have g184 := nq_nle (by omega) (by omega) h184
          refine pE_aload_n dX12_ask_187 rfl rfl ?_
          refine pE_getR dX12_ask_188 flX12_133 rfl (by first | assumption | rfl) (by first | assumption | rfl) ?_
          refine pE_iload dX12_ask_191 rfl ?_
          refine pE_ialoadN dX12_ask_193 (by first | assumption | rfl) (by first | assumption | omega) (by omega) ?_
          rw [hY j (by omega)]
          refine pE_goto (tgt := 206) dX12_ask_194 (by decide) ?_
          refine pE_istore (lc' := [_, _, _, _, _, _, _, some (.int _)]) dX12_ask_206 (Nat.le_of_ble_eq_true rfl) rfl rfl ?_
          refine pE_iload dX12_ask_208 rfl ?_
          refine pE_iload dX12_ask_210 rfl ?_
          refine pE_icmp_lt (tgt := 218) dX12_ask_212 (by decide) (fun h212 => ?_) (fun h212 => ?_)
          · have g212 := nq_lt (by omega) (by omega) h212
            refine pE_iload dX12_ask_218 rfl ?_
            refine pE_istore (lc' := [_, _, _, _, some (.int _), _, _, _]) dX12_ask_220 (Nat.le_of_ble_eq_true rfl) rfl rfl ?_
            refine pE_iload dX12_ask_222 rfl ?_
            refine pE_istore (lc' := [_, _, _, _, _, some (.int _), _, _]) dX12_ask_224 (Nat.le_of_ble_eq_true rfl) rfl rfl ?_
            refine pE_iincN (c0 := 1) (lc' := [_, _, _, _, _, _, some (.int _), _]) dX12_ask_226 rfl rfl rfl rfl ?_
            refine pE_goto (tgt := 159) dX12_ask_229 (by decide) ?_
            first
            | (have eF : askF M k m H j = runY M k m H j := by omega
               exact pE_cg (ih (j + 1) (some (.int (nI (runY M k m H j)))) (by omega) (by omega)) (by rw [ls_0 e, show lsF (askF M k m H) (runR M k m H + 1) (some j) = runY M k m H j from eF]; rfl) rfl rfl rfl rfl)
            | (have eF : askF M k m H j = runR M k m H - runY M k m H j := by omega
               exact pE_cg (ih (j + 1) (some (.int (nI (runR M k m H - runY M k m H j)))) (by omega) (by omega)) (by rw [ls_0 e, show lsF (askF M k m H) (runR M k m H + 1) (some j) = runR M k m H - runY M k m H j from eF]; rfl) rfl rfl rfl rfl)
          · have g212 := nq_nlt (by omega) (by omega) h212
            omega
    | some b =>
      have hb := ls_some e
      have hFb := hFR b
      rw [show oI (some b) = nI b from rfl, show lsF (askF M k m H) (runR M k m H + 1) (some b) = askF M k m H b from rfl]
      refine pE_iload dX12_ask_159 rfl ?_
      refine pE_aload_n dX12_ask_161 rfl rfl ?_
      refine pE_getI dX12_ask_162 flX12_82 rfl (Or.inl rfl) (by first | assumption | rfl) ?_
      rw [hH.1]
      refine pE_icmp_gt (tgt := 232) dX12_ask_165 (by decide) (fun h165 => ?_) (fun h165 => ?_)
      · have g165 := nq_lt (by omega) (by omega) h165
        obtain rfl : j = H 0 + 1 := by omega
        rw [e] at hq
        refine pE_iload_n dX12_ask_232 rfl rfl ?_
        refine pE_if_ne (tgt := 241) dX12_ask_233 (by decide) (fun h233 => ?_) (fun h233 => ?_)
        · have g233 := nq_ne0 (by omega) h233
          refine pE_iload dX12_ask_241 rfl ?_
          refine pE_iret dX12_ask_243 rfl rfl ?_
          first
          | (have e0 : w = 0 := (by omega); subst e0; exact hq)
          | (have e0 : w = 1 := (by omega); subst e0; exact hq)
        · have g233 := nq_eq0 (by omega) h233
          refine pE_iload dX12_ask_236 rfl ?_
          refine pE_goto (tgt := 243) dX12_ask_238 (by decide) ?_
          refine pE_iret dX12_ask_243 rfl rfl ?_
          first
          | (have e0 : w = 0 := (by omega); subst e0; exact hq)
          | (have e0 : w = 1 := (by omega); subst e0; exact hq)
      · have g165 := nq_nlt (by omega) (by omega) h165
        refine pE_aload_n dX12_ask_168 rfl rfl ?_
        refine pE_getR dX12_ask_169 flX12_133 rfl (by first | assumption | rfl) (by first | assumption | rfl) ?_
        refine pE_iload dX12_ask_172 rfl ?_
        refine pE_ialoadN dX12_ask_174 (by first | assumption | rfl) (by first | assumption | omega) (by omega) ?_
        rw [hY j (by omega)]
        refine pE_iload_n dX12_ask_175 rfl rfl ?_
        refine pE_aload_n dX12_ask_176 rfl rfl ?_
        refine pE_getR dX12_ask_177 flX12_133 rfl (by first | assumption | rfl) (by first | assumption | rfl) ?_
        refine pE_iload dX12_ask_180 rfl ?_
        refine pE_ialoadN dX12_ask_182 (by first | assumption | rfl) (by first | assumption | omega) (by omega) ?_
        rw [hY j (by omega)]
        refine pE_isubN dX12_ask_183 (by omega) ?_
        refine pE_icmp_le (tgt := 197) dX12_ask_184 (by decide) (fun h184 => ?_) (fun h184 => ?_)
        · have g184 := nq_le (by omega) (by omega) h184
          refine pE_iload_n dX12_ask_197 rfl rfl ?_
          refine pE_aload_n dX12_ask_198 rfl rfl ?_
          refine pE_getR dX12_ask_199 flX12_133 rfl (by first | assumption | rfl) (by first | assumption | rfl) ?_
          refine pE_iload dX12_ask_202 rfl ?_
          refine pE_ialoadN dX12_ask_204 (by first | assumption | rfl) (by first | assumption | omega) (by omega) ?_
          rw [hY j (by omega)]
          refine pE_isubN dX12_ask_205 (by omega) ?_
          refine pE_istore (lc' := [_, _, _, _, _, _, _, some (.int _)]) dX12_ask_206 (Nat.le_of_ble_eq_true rfl) rfl rfl ?_
          refine pE_iload dX12_ask_208 rfl ?_
          refine pE_iload dX12_ask_210 rfl ?_
          refine pE_icmp_lt (tgt := 218) dX12_ask_212 (by decide) (fun h212 => ?_) (fun h212 => ?_)
          · have g212 := nq_lt (by omega) (by omega) h212
            refine pE_iload dX12_ask_218 rfl ?_
            refine pE_istore (lc' := [_, _, _, _, some (.int _), _, _, _]) dX12_ask_220 (Nat.le_of_ble_eq_true rfl) rfl rfl ?_
            refine pE_iload dX12_ask_222 rfl ?_
            refine pE_istore (lc' := [_, _, _, _, _, some (.int _), _, _]) dX12_ask_224 (Nat.le_of_ble_eq_true rfl) rfl rfl ?_
            refine pE_iincN (c0 := 1) (lc' := [_, _, _, _, _, _, some (.int _), _]) dX12_ask_226 rfl rfl rfl rfl ?_
            refine pE_goto (tgt := 159) dX12_ask_229 (by decide) ?_
            first
            | (have eF : askF M k m H j = runY M k m H j := by omega
               first
               | exact pE_cg (ih (j + 1) (some (.int (nI (runY M k m H j)))) (by omega) (by omega)) (by rw [ls_y e (by omega), show lsF (askF M k m H) (runR M k m H + 1) (some j) = runY M k m H j from eF]; rfl) rfl rfl rfl rfl
               | exact pE_cg (ih (j + 1) (some (.int (nI (runY M k m H j)))) (by omega) (by omega)) (by rw [ls_n e (by omega)]; rfl) rfl rfl rfl rfl)
            | (have eF : askF M k m H j = runR M k m H - runY M k m H j := by omega
               first
               | exact pE_cg (ih (j + 1) (some (.int (nI (runR M k m H - runY M k m H j)))) (by omega) (by omega)) (by rw [ls_y e (by omega), show lsF (askF M k m H) (runR M k m H + 1) (some j) = runR M k m H - runY M k m H j from eF]; rfl) rfl rfl rfl rfl
               | exact pE_cg (ih (j + 1) (some (.int (nI (runR M k m H - runY M k m H j)))) (by omega) (by omega)) (by rw [ls_n e (by omega)]; rfl) rfl rfl rfl rfl)
          · have g212 := nq_nlt (by omega) (by omega) h212
            refine pE_goto (tgt := 226) dX12_ask_215 (by decide) ?_
            refine pE_iincN (c0 := 1) (lc' := [_, _, _, _, _, _, some (.int _), _]) dX12_ask_226 rfl rfl rfl rfl ?_
            refine pE_goto (tgt := 159) dX12_ask_229 (by decide) ?_
            first
            | (have eF : askF M k m H j = runY M k m H j := by omega
               first
               | exact pE_cg (ih (j + 1) (some (.int (nI (runY M k m H j)))) (by omega) (by omega)) (by rw [ls_y e (by omega), show lsF (askF M k m H) (runR M k m H + 1) (some j) = runY M k m H j from eF]; rfl) rfl rfl rfl rfl
               | exact pE_cg (ih (j + 1) (some (.int (nI (runY M k m H j)))) (by omega) (by omega)) (by rw [ls_n e (by omega)]; rfl) rfl rfl rfl rfl)
            | (have eF : askF M k m H j = runR M k m H - runY M k m H j := by omega
               first
               | exact pE_cg (ih (j + 1) (some (.int (nI (runR M k m H - runY M k m H j)))) (by omega) (by omega)) (by rw [ls_y e (by omega), show lsF (askF M k m H) (runR M k m H + 1) (some j) = runR M k m H - runY M k m H j from eF]; rfl) rfl rfl rfl rfl
               | exact pE_cg (ih (j + 1) (some (.int (nI (runR M k m H - runY M k m H j)))) (by omega) (by omega)) (by rw [ls_n e (by omega)]; rfl) rfl rfl rfl rfl)
        · have g184 := nq_nle (by omega) (by omega) h184
          refine pE_aload_n dX12_ask_187 rfl rfl ?_
          refine pE_getR dX12_ask_188 flX12_133 rfl (by first | assumption | rfl) (by first | assumption | rfl) ?_
          refine pE_iload dX12_ask_191 rfl ?_
          refine pE_ialoadN dX12_ask_193 (by first | assumption | rfl) (by first | assumption | omega) (by omega) ?_
          rw [hY j (by omega)]
          refine pE_goto (tgt := 206) dX12_ask_194 (by decide) ?_
          refine pE_istore (lc' := [_, _, _, _, _, _, _, some (.int _)]) dX12_ask_206 (Nat.le_of_ble_eq_true rfl) rfl rfl ?_
          refine pE_iload dX12_ask_208 rfl ?_
          refine pE_iload dX12_ask_210 rfl ?_
          refine pE_icmp_lt (tgt := 218) dX12_ask_212 (by decide) (fun h212 => ?_) (fun h212 => ?_)
          · have g212 := nq_lt (by omega) (by omega) h212
            refine pE_iload dX12_ask_218 rfl ?_
            refine pE_istore (lc' := [_, _, _, _, some (.int _), _, _, _]) dX12_ask_220 (Nat.le_of_ble_eq_true rfl) rfl rfl ?_
            refine pE_iload dX12_ask_222 rfl ?_
            refine pE_istore (lc' := [_, _, _, _, _, some (.int _), _, _]) dX12_ask_224 (Nat.le_of_ble_eq_true rfl) rfl rfl ?_
            refine pE_iincN (c0 := 1) (lc' := [_, _, _, _, _, _, some (.int _), _]) dX12_ask_226 rfl rfl rfl rfl ?_
            refine pE_goto (tgt := 159) dX12_ask_229 (by decide) ?_
            first
            | (have eF : askF M k m H j = runY M k m H j := by omega
               first
               | exact pE_cg (ih (j + 1) (some (.int (nI (runY M k m H j)))) (by omega) (by omega)) (by rw [ls_y e (by omega), show lsF (askF M k m H) (runR M k m H + 1) (some j) = runY M k m H j from eF]; rfl) rfl rfl rfl rfl
               | exact pE_cg (ih (j + 1) (some (.int (nI (runY M k m H j)))) (by omega) (by omega)) (by rw [ls_n e (by omega)]; rfl) rfl rfl rfl rfl)
            | (have eF : askF M k m H j = runR M k m H - runY M k m H j := by omega
               first
               | exact pE_cg (ih (j + 1) (some (.int (nI (runR M k m H - runY M k m H j)))) (by omega) (by omega)) (by rw [ls_y e (by omega), show lsF (askF M k m H) (runR M k m H + 1) (some j) = runR M k m H - runY M k m H j from eF]; rfl) rfl rfl rfl rfl
               | exact pE_cg (ih (j + 1) (some (.int (nI (runR M k m H - runY M k m H j)))) (by omega) (by omega)) (by rw [ls_n e (by omega)]; rfl) rfl rfl rfl rfl)
          · have g212 := nq_nlt (by omega) (by omega) h212
            refine pE_goto (tgt := 226) dX12_ask_215 (by decide) ?_
            refine pE_iincN (c0 := 1) (lc' := [_, _, _, _, _, _, some (.int _), _]) dX12_ask_226 rfl rfl rfl rfl ?_
            refine pE_goto (tgt := 159) dX12_ask_229 (by decide) ?_
            first
            | (have eF : askF M k m H j = runY M k m H j := by omega
               first
               | exact pE_cg (ih (j + 1) (some (.int (nI (runY M k m H j)))) (by omega) (by omega)) (by rw [ls_y e (by omega), show lsF (askF M k m H) (runR M k m H + 1) (some j) = runY M k m H j from eF]; rfl) rfl rfl rfl rfl
               | exact pE_cg (ih (j + 1) (some (.int (nI (runY M k m H j)))) (by omega) (by omega)) (by rw [ls_n e (by omega)]; rfl) rfl rfl rfl rfl)
            | (have eF : askF M k m H j = runR M k m H - runY M k m H j := by omega
               first
               | exact pE_cg (ih (j + 1) (some (.int (nI (runR M k m H - runY M k m H j)))) (by omega) (by omega)) (by rw [ls_y e (by omega), show lsF (askF M k m H) (runR M k m H + 1) (some j) = runR M k m H - runY M k m H j from eF]; rfl) rfl rfl rfl rfl
               | exact pE_cg (ih (j + 1) (some (.int (nI (runR M k m H - runY M k m H j)))) (by omega) (by omega)) (by rw [ls_n e (by omega)]; rfl) rfl rfl rfl rfl)
set_option maxHeartbeats 400000 in
set_option maxRecDepth 100000 in
theorem LA_X12_ask {l : Launch} {X : pX} {t g : Nat} {I : pHI} {J : pHJ} {Q : pQ} {x k : Int32} {m u : Nat} {M : pMk} {H : pN} (hH : mH H I) (hr : rH H) (hM : mM I m u M) (hrM : rM H m u M) (h1 : ∀ w, w ≤ 1 → x = nI w → 0 < runR M k m H → ∀ I1, sz I I1 → Q (some (.int (askA (askF M k m H) (lsN (askF M k m H) (H 0 + 1)) w))) I1 J (pR t g)) (h0 : ((∀ w, w ≤ 1 → x ≠ nI w) ∨ runR M k m H = 0) → ∀ I1, sz I I1 → Q (some (.int (-1))) I1 J (pR t g)) : ∀ (fu : Nat) (j : Nat) (I1 : pHI) (v5 : Option Value) (v6 : Option Value) (v7 : Option Value), H 1 - j < fu → (j ≤ H 1) → (sz I I1) → (∀ s, s ≤ H 0 → I1 106 s = nI (sumN (rnW M k m H s) j)) → pE l X mX12_ask 3 pK 31 [some (.ref 67), some (.int x), some (.int k), some (.int (nI (sumN (rnN M k m H) j))), some (.int (nI j)), v5, v6, v7] [] pK I1 J (pR t g) Q := by
  intro fu
  induction fu with
  | zero => intro j I1 v5 v6 v7 hn; exact absurd hn (Nat.not_lt_zero _)
  | succ fu ih =>
    intro j I1 v5 v6 v7 hn hj hx hY
    have hn8 := hr.2.1
    have hn20 := hr.1.2
    have hH1 := hH.sz hx
    have hM1 := hM.sz hx
    have hR3 := runR_le M k m (H := H) hn8 hn20
    refine pE_iload dX12_ask_31 rfl ?_
    refine pE_aload_n dX12_ask_33 rfl rfl ?_
    refine pE_getI dX12_ask_34 flX12_350 rfl (Or.inl rfl) (by first | assumption | rfl) ?_
    rw [hH1.2.1]
    refine pE_icmp_ge (tgt := 133) dX12_ask_37 (by decide) (fun h37 => ?_) (fun h37 => ?_)
    · have g37 := nq_le (by omega) (by omega) h37
      obtain rfl : j = H 1 := by omega
      rw [show sumN (rnN M k m H) (H 1) = runR M k m H from rfl]
      refine pE_iload_n dX12_ask_133 rfl rfl ?_
      refine pE_iconst (v := nI 0) dX12_ask_134 rfl ?_
      refine pE_iconst (v := nI 1) dX12_ask_135 rfl ?_
      refine pE_callS (d' := 0) (as := [_, _, _]) dX12_ask_136 lkX12_368 (cwX12_isIn _ _) svX12_isIn rfl rfl (Nat.le_of_ble_eq_true rfl) (by decide) pKK ?_
      refine M_X12_isIn  (fun k1 k2 => ?_) (fun kk => ?_)
      · obtain ⟨w, rfl, -, hw⟩ := in_rng (by omega) (by omega) k1 k2
        refine pE_if_eq_f (tgt := 146) dX12_ask_139 (by decide) nI_1n0 ?_
        refine pE_iload_n dX12_ask_142 rfl rfl ?_
        refine pE_if_ne (tgt := 148) dX12_ask_143 (by decide) (fun h143 => ?_) (fun h143 => ?_)
        · have g143 := nq_ne0 (by omega) h143
          refine pE_iconst (v := -1) dX12_ask_148 rfl ?_
          refine pE_istore (lc' := [_, _, _, _, some (.int _), _, _, _]) dX12_ask_149 (Nat.le_of_ble_eq_true rfl) rfl rfl ?_
          refine pE_iload_n dX12_ask_151 rfl rfl ?_
          refine pE_iconst (v := nI 1) dX12_ask_152 rfl ?_
          refine pE_iaddN dX12_ask_153 ?_
          refine pE_istore (lc' := [_, _, _, _, _, some (.int _), _, _]) dX12_ask_154 (Nat.le_of_ble_eq_true rfl) rfl rfl ?_
          refine pE_iconst (v := nI 0) dX12_ask_156 rfl ?_
          refine pE_istore (lc' := [_, _, _, _, _, _, some (.int _), _]) dX12_ask_157 (Nat.le_of_ble_eq_true rfl) rfl rfl ?_
          exact LE_X12_ask (m := m) (M := M) hH1 hr hw hY (h1 w hw rfl g143 I1 hx) (H 0 + 2) 0 _ (by omega) (by omega)
        · have g143 := nq_eq0 (by omega) h143
          refine pE_iconst (v := -1) dX12_ask_146 rfl ?_
          refine pE_iret dX12_ask_147 rfl rfl ?_
          first
          | exact h0 (Or.inr g143) _ hx
          | exact h0 (Or.inl (fun w hw => hno w (Nat.zero_le _) hw)) _ hx
      · have hno := out_rng (by omega) (by omega) kk
        refine pE_if_eq_t (tgt := 146) dX12_ask_139 (by decide) nI_0 ?_
        refine pE_iconst (v := -1) dX12_ask_146 rfl ?_
        refine pE_iret dX12_ask_147 rfl rfl ?_
        first
        | exact h0 (Or.inr g143) _ hx
        | exact h0 (Or.inl (fun w hw => hno w (Nat.zero_le _) hw)) _ hx
    · have g37 := nq_nle (by omega) (by omega) h37
      refine pE_iconst (v := nI 0) dX12_ask_40 rfl ?_
      refine pE_istore (lc' := [_, _, _, _, _, some (.int _), _, _]) dX12_ask_41 (Nat.le_of_ble_eq_true rfl) rfl rfl ?_
      refine LO_X12_ask (I := I1) (R := sumN (rnN M k m H) j) (Y := fun s => sumN (rnW M k m H s) j) hH1 hr hM1 hrM (by omega) (fun I2 y5 v6' v7' x2 h2 => ?_) (H 0 + 1) 0 I1 _ _ (by omega) (by omega) sz.rf hY
      refine pE_iincN (c0 := 1) (lc' := [_, _, _, _, some (.int _), _, _, _]) dX12_ask_127 rfl rfl rfl rfl ?_
      refine pE_goto (tgt := 31) dX12_ask_130 (by decide) ?_
      exact ih (j + 1) I2 _ _ _ (by omega) (by omega) (hx.tr x2) h2
set_option maxHeartbeats 400000 in
set_option maxRecDepth 100000 in
theorem LZ_X12_ask {l : Launch} {X : pX} {t g : Nat} {I : pHI} {J : pHJ} {Q : pQ} {x k : Int32} {m u : Nat} {M : pMk} {H : pN} (hH : mH H I) (hr : rH H) (hM : mM I m u M) (hrM : rM H m u M) (h1 : ∀ w, w ≤ 1 → x = nI w → 0 < runR M k m H → ∀ I1, sz I I1 → Q (some (.int (askA (askF M k m H) (lsN (askF M k m H) (H 0 + 1)) w))) I1 J (pR t g)) (h0 : ((∀ w, w ≤ 1 → x ≠ nI w) ∨ runR M k m H = 0) → ∀ I1, sz I I1 → Q (some (.int (-1))) I1 J (pR t g)) : ∀ (fu : Nat) (j : Nat) (I1 : pHI) (v5 : Option Value) (v6 : Option Value) (v7 : Option Value), H 0 + 1 - j < fu → (j ≤ H 0 + 1) → (sz I I1) → (∀ s, s < j → I1 106 s = nI 0) → pE l X mX12_ask 3 pK 5 [some (.ref 67), some (.int x), some (.int k), some (.int (nI 0)), some (.int (nI j)), v5, v6, v7] [] pK I1 J (pR t g) Q := by
  intro fu
  induction fu with
  | zero => intro j I1 v5 v6 v7 hn; exact absurd hn (Nat.not_lt_zero _)
  | succ fu ih =>
    intro j I1 v5 v6 v7 hn hj hx hY
    have hn8 := hr.2.1
    have hn20 := hr.1.2
    have hH1 := hH.sz hx
    refine pE_iload dX12_ask_5 rfl ?_
    refine pE_aload_n dX12_ask_7 rfl rfl ?_
    refine pE_getI dX12_ask_8 flX12_82 rfl (Or.inl rfl) (by first | assumption | rfl) ?_
    rw [hH1.1]
    refine pE_icmp_gt (tgt := 28) dX12_ask_11 (by decide) (fun h11 => ?_) (fun h11 => ?_)
    · have g11 := nq_lt (by omega) (by omega) h11
      refine pE_iconst (v := nI 0) dX12_ask_28 rfl ?_
      refine pE_istore (lc' := [_, _, _, _, some (.int _), _, _, _]) dX12_ask_29 (Nat.le_of_ble_eq_true rfl) rfl rfl ?_
      exact LA_X12_ask hH hr hM hrM h1 h0 (H 1 + 1) 0 I1 _ _ _ (by omega) (by omega) hx (fun s hs => hY s (by omega))
    · have g11 := nq_nlt (by omega) (by omega) h11
      refine pE_aload_n dX12_ask_14 rfl rfl ?_
      refine pE_getR dX12_ask_15 flX12_133 rfl (by first | assumption | rfl) (by first | assumption | rfl) ?_
      refine pE_iload dX12_ask_18 rfl ?_
      refine pE_iconst (v := nI 0) dX12_ask_20 rfl ?_
      refine pE_iastoreN dX12_ask_21 (by first | assumption | rfl) (by first | assumption | omega) (by omega) ?_
      refine pE_iincN (c0 := 1) (lc' := [_, _, _, _, some (.int _), _, _, _]) dX12_ask_22 rfl rfl rfl rfl ?_
      refine pE_goto (tgt := 5) dX12_ask_25 (by decide) ?_
      refine ih (j + 1) _ _ _ _ (by omega) (by omega) (szp106 hx) (fun s hs => ?_)
      rw [pu_at]
      by_cases c : s = j
      · subst c; simp
      · rw [if_neg (fun q => c q.2)]; exact hY s (by omega)
set_option maxHeartbeats 400000 in
set_option maxRecDepth 100000 in
theorem M_X12_ask {l : Launch} {X : pX} {t g : Nat} {I : pHI} {J : pHJ} {Q : pQ} {x k : Int32} {m u : Nat} {M : pMk} {H : pN} (hH : mH H I) (hr : rH H) (hM : mM I m u M) (hrM : rM H m u M) (h1 : ∀ w, w ≤ 1 → x = nI w → 0 < runR M k m H → ∀ I1, sz I I1 → Q (some (.int (askA (askF M k m H) (lsN (askF M k m H) (H 0 + 1)) w))) I1 J (pR t g)) (h0 : ((∀ w, w ≤ 1 → x ≠ nI w) ∨ runR M k m H = 0) → ∀ I1, sz I I1 → Q (some (.int (-1))) I1 J (pR t g)) : pM l X yX12_ask mX12_ask 3 [.ref 67, .int x, .int k] pK pK I J (pR t g) Q := by
  refine pM_of rfl (fun h => by cases h) rfl pKM (Nat.le_of_ble_eq_true rfl) ?_
  refine pE_iconst (v := nI 0) dX12_ask_0 rfl ?_
  refine pE_istore_n (lc' := [_, _, _, some (.int _), _, _, _, _]) dX12_ask_1 rfl (Nat.le_of_ble_eq_true rfl) rfl rfl ?_
  refine pE_iconst (v := nI 0) dX12_ask_2 rfl ?_
  refine pE_istore (lc' := [_, _, _, _, some (.int _), _, _, _]) dX12_ask_3 (Nat.le_of_ble_eq_true rfl) rfl rfl ?_
  exact LZ_X12_ask hH hr hM hrM h1 h0 (H 0 + 2) 0 I _ _ _ (by omega) (by omega) sz.rf (fun s hs => by omega)
