-- needs: 33.rel9 36.climb 38.rel10
set_option maxHeartbeats 4000000 in
set_option maxRecDepth 100000 in
theorem L_X11_poorest {l : Launch} {X : pX} {t g : Nat} {I : pHI} {J : pHJ} {Q : pQ} {H T : pN} (ht : isH t) (hH : cH t H I) (hr : rH H) (hS : cS 33 T I) (hrT : rS 999 H T) (hq : Q (some (.int (oI (topN (lackN H T) (H 1)).2))) I J (pR t g)) : ∀ (n j : Nat) (v4 : Option Value), H 1 - j < n → j ≤ H 1 → pE l X mX11_poorest 2 pK 6 [some (.ref 0), some (.int (oI (topN (lackN H T) j).2)), some (.int (mI (topN (lackN H T) j))), some (.int (nI j)), v4] [] pK I J (pR t g) Q := by
  obtain ⟨fHFht0, fHFht1, fHFht2, fHFht3, fHFht4, fHFht5, fHFht6, fHFht7, fHFht8, fHFht9, fHFht10, fHFht11, fHFht12, fHFht13, fHFht14, fHFht15, fHFht16, fHFht17, fHFht18, fHFht19, fHFht20, fHFht21, fHFht22, fHFht23, fHFht24, fHFht25, fHFht26⟩ := HF t g ht
  intro n
  induction n with
  | zero => intro j v4 hn hj; exact absurd hn (Nat.not_lt_zero _)
  | succ n ih =>
    intro j v4 hn hj
    have hn8 := hr.2.1
    have hll : ∀ i, i < 8 → lackN H T i ≤ 1000000 := fun i hi => lack_le hr hrT hi
    have hlj : j < 8 → lackN H T j ≤ 1000000 := hll j
    refine pE_iload_n dX11_poorest_6 rfl rfl ?_
    refine pE_aload_n dX11_poorest_7 rfl rfl ?_
    refine pE_getR dX11_poorest_8 flX11_29 rfl (by first | assumption | rfl) (by first | assumption | rfl) ?_
    refine pE_getI dX11_poorest_11 flX11_110 rfl (Or.inl rfl) (by first | assumption | rfl) ?_
    rw [hH.2.2.1]
    refine pE_icmp_ge (tgt := 48) dX11_poorest_14 (by decide) (fun h14 => ?_) (fun h14 => ?_)
    · have g14 := nq_le (by omega) (by omega) h14
      refine pE_iload_n dX11_poorest_48 rfl rfl ?_
      refine pE_iret dX11_poorest_49 rfl rfl ?_
      obtain rfl : j = H 1 := by omega
      exact hq
    · have g14 := nq_nle (by omega) (by omega) h14
      have hb1 := (hr.2.2.2.2 j (by omega)).2.2.2.1
      have hb3 := (hrT.2.2.2.2 j (by omega)).2.1
      have hb4 := (hrT.2.2.2.2 j (by omega)).2.2
      have hb5 := hrT.2.1
      have hb2 : T (16 + j) ≤ 100000000 := by have := Nat.mul_le_mul_left 1000 hb5; omega
      refine pE_aload_n dX11_poorest_17 rfl rfl ?_
      refine pE_getR dX11_poorest_18 flX11_29 rfl (by first | assumption | rfl) (by first | assumption | rfl) ?_
      refine pE_aload_n dX11_poorest_21 rfl rfl ?_
      refine pE_getR dX11_poorest_22 flX11_39 rfl (by first | assumption | rfl) (by first | assumption | rfl) ?_
      refine pE_iload_n dX11_poorest_25 rfl rfl ?_
      refine pE_callV (d' := 1) (as := [_, _]) dX11_poorest_26 lkX11_148 (cwX2_lackOf _ _) ivX2_lackOf ⟨_, rfl, rfl⟩ (by first | assumption | rfl) rfl rfl (Nat.le_of_ble_eq_true rfl) (by decide) pKK ?_
      refine M_X2_lackOf (H := H) (T := T) ht (Or.inl rfl) (by omega) (hH.2.2.2.2.2 j (by omega)).2.2.2.1 (hS.2.2.2.2 j (by omega)).2.2 (hS.2.2.2.2 j (by omega)).2.1 hb1 hb2 hb3 ?_
      refine pE_istore (lc' := [_, _, _, _, some (.int _)]) dX11_poorest_29 (Nat.le_of_ble_eq_true rfl) rfl rfl ?_
      refine pE_iload dX11_poorest_31 rfl ?_
      refine pE_iload_n dX11_poorest_33 rfl rfl ?_
      refine pE_icmp_le (tgt := 42) dX11_poorest_34 (by decide) (fun h34 => ?_) (fun h34 => ?_)
      · refine pE_iincN (c0 := 1) (lc' := [_, _, _, some (.int _), _]) dX11_poorest_42 rfl rfl rfl rfl ?_
        refine pE_goto (tgt := 6) dX11_poorest_45 (by decide) ?_
        refine pE_cg (ih (j + 1) (some (.int (nI (lackN H T j)))) (by omega) (by omega)) (by
            cases e : (topN (lackN H T) j).2 with
            | none => first | (exact absurd h34 (by simp only [mI, e]; exact fun h => nle_m1 (by omega) h)) | (rw [topN_s0 e]; done) | (simp only [topN_s0 e, mI, oI]; done)
            | some i =>
              have e2 := topN_some e
              have e3 := hll i (by omega)
              have hm : mI (topN (lackN H T) j) = nI (topN (lackN H T) j).1 := by simp only [mI, e]
              rw [hm] at h34
              first
              | (have c := nq_le (by omega) (by omega) h34; rw [topN_s2 e (by omega)]; simp only [mI, e]; done)
              | (have c := nq_nle (by omega) (by omega) h34; rw [topN_s1 e (by omega)]; simp only [mI, e, oI]; done)) rfl rfl rfl rfl
      · refine pE_iload dX11_poorest_37 rfl ?_
        refine pE_istore_n (lc' := [_, _, some (.int _), _, _]) dX11_poorest_39 rfl (Nat.le_of_ble_eq_true rfl) rfl rfl ?_
        refine pE_iload_n dX11_poorest_40 rfl rfl ?_
        refine pE_istore_n (lc' := [_, some (.int _), _, _, _]) dX11_poorest_41 rfl (Nat.le_of_ble_eq_true rfl) rfl rfl ?_
        refine pE_iincN (c0 := 1) (lc' := [_, _, _, some (.int _), _]) dX11_poorest_42 rfl rfl rfl rfl ?_
        refine pE_goto (tgt := 6) dX11_poorest_45 (by decide) ?_
        refine pE_cg (ih (j + 1) (some (.int (nI (lackN H T j)))) (by omega) (by omega)) (by
            cases e : (topN (lackN H T) j).2 with
            | none => first | (exact absurd h34 (by simp only [mI, e]; exact fun h => nle_m1 (by omega) h)) | (rw [topN_s0 e]; done) | (simp only [topN_s0 e, mI, oI]; done)
            | some i =>
              have e2 := topN_some e
              have e3 := hll i (by omega)
              have hm : mI (topN (lackN H T) j) = nI (topN (lackN H T) j).1 := by simp only [mI, e]
              rw [hm] at h34
              first
              | (have c := nq_le (by omega) (by omega) h34; rw [topN_s2 e (by omega)]; simp only [mI, e]; done)
              | (have c := nq_nle (by omega) (by omega) h34; rw [topN_s1 e (by omega)]; simp only [mI, e, oI]; done)) rfl rfl rfl rfl
set_option maxHeartbeats 4000000 in
set_option maxRecDepth 100000 in
theorem M_X11_poorest {l : Launch} {X : pX} {t g : Nat} {I : pHI} {J : pHJ} {Q : pQ} {H T : pN} (ht : isH t) (hH : cH t H I) (hr : rH H) (hS : cS 33 T I) (hrT : rS 999 H T) (hq : Q (some (.int (oI (topN (lackN H T) (H 1)).2))) I J (pR t g)) : pM l X yX11_poorest mX11_poorest 2 [.ref 0] pK pK I J (pR t g) Q := by
  refine pM_of rfl (fun h => by cases h) rfl pKM (Nat.le_of_ble_eq_true rfl) ?_
  refine pE_iconst (v := -1) dX11_poorest_0 rfl ?_
  refine pE_istore_n (lc' := [_, some (.int _), _, _, _]) dX11_poorest_1 rfl (Nat.le_of_ble_eq_true rfl) rfl rfl ?_
  refine pE_iconst (v := -1) dX11_poorest_2 rfl ?_
  refine pE_istore_n (lc' := [_, _, some (.int _), _, _]) dX11_poorest_3 rfl (Nat.le_of_ble_eq_true rfl) rfl rfl ?_
  refine pE_iconst (v := nI 0) dX11_poorest_4 rfl ?_
  refine pE_istore_n (lc' := [_, _, _, some (.int _), _]) dX11_poorest_5 rfl (Nat.le_of_ble_eq_true rfl) rfl rfl ?_
  exact L_X11_poorest ht hH hr hS hrT hq (H 1 + 1) 0 _ (by omega) (by omega)
set_option maxHeartbeats 4000000 in
set_option maxRecDepth 100000 in
theorem L_X12_poorest {l : Launch} {X : pX} {t g : Nat} {I : pHI} {J : pHJ} {Q : pQ} {H T : pN} (hH : mH H I) (hr : rH H) (hrT : rS 999 H T) (hS : mS 91 T I) (hq : Q (some (.int (oI (topN (lackN H T) (H 1)).2))) I J (pR t g)) : ∀ (n j : Nat), H 1 - j < n → j ≤ H 1 → pE l X mX12_poorest 2 pK 8 [some (.ref 67), some (.int (oI (topN (lackN H T) j).2)), some (.int (nI j))] [] pK I J (pR t g) Q := by
  intro n
  induction n with
  | zero => intro j hn hj; exact absurd hn (Nat.not_lt_zero _)
  | succ n ih =>
    intro j hn hj
    have hn8 := hr.2.1
    have hll : ∀ i, i < 8 → lackN H T i ≤ 1000000 := fun i hi => lack_le hr hrT hi
    have hlj : j < 8 → lackN H T j ≤ 1000000 := hll j
    cases e : (topN (lackN H T) j).2 with
    | none =>
      refine pE_iload_n dX12_poorest_8 rfl rfl ?_
      refine pE_aload_n dX12_poorest_9 rfl rfl ?_
      refine pE_getI dX12_poorest_10 flX12_350 rfl (Or.inl rfl) (by first | assumption | rfl) ?_
      rw [hH.2.1]
      refine pE_icmp_ge (tgt := 41) dX12_poorest_13 (by decide) (fun h13 => ?_) (fun h13 => ?_)
      · have g13 := nq_le (by omega) (by omega) h13
        refine pE_iload_n dX12_poorest_41 rfl rfl ?_
        refine pE_iret dX12_poorest_42 rfl rfl ?_
        obtain rfl : j = H 1 := by omega
        rw [show oI none = oI (topN (lackN H T) (H 1)).2 by rw [e]]
        exact hq
      · have g13 := nq_nle (by omega) (by omega) h13
        refine pE_iload_n dX12_poorest_16 rfl rfl ?_
        refine pE_if_lt (tgt := 33) dX12_poorest_17 (by decide) (fun h17 => ?_) (fun h17 => ?_)
        · refine pE_iload_n dX12_poorest_33 rfl rfl ?_
          refine pE_istore_n (lc' := [_, some (.int _), _]) dX12_poorest_34 rfl (Nat.le_of_ble_eq_true rfl) rfl rfl ?_
          refine pE_iincN (c0 := 1) (lc' := [_, _, some (.int _)]) dX12_poorest_35 rfl rfl rfl rfl ?_
          refine pE_goto (tgt := 8) dX12_poorest_38 (by decide) ?_
          refine pE_cg (ih (j + 1) (by omega) (by omega)) (by
              rw [topN_s0 e]; rfl) rfl rfl rfl rfl
        · exact absurd m1_lt0 h17
    | some i =>
      have e2 := topN_some e
      have e3 := hll i (by omega)
      rw [show oI (some i) = nI i from rfl]
      refine pE_iload_n dX12_poorest_8 rfl rfl ?_
      refine pE_aload_n dX12_poorest_9 rfl rfl ?_
      refine pE_getI dX12_poorest_10 flX12_350 rfl (Or.inl rfl) (by first | assumption | rfl) ?_
      rw [hH.2.1]
      refine pE_icmp_ge (tgt := 41) dX12_poorest_13 (by decide) (fun h13 => ?_) (fun h13 => ?_)
      · have g13 := nq_le (by omega) (by omega) h13
        refine pE_iload_n dX12_poorest_41 rfl rfl ?_
        refine pE_iret dX12_poorest_42 rfl rfl ?_
        obtain rfl : j = H 1 := by omega
        rw [show (nI i : Int32) = oI (topN (lackN H T) (H 1)).2 by rw [e]; rfl]
        exact hq
      · have g13 := nq_nle (by omega) (by omega) h13
        refine pE_iload_n dX12_poorest_16 rfl rfl ?_
        refine pE_if_lt (tgt := 33) dX12_poorest_17 (by decide) (fun h17 => ?_) (fun h17 => ?_)
        · exact absurd h17 (nI_pos (by omega))
        · refine pE_aload_n dX12_poorest_20 rfl rfl ?_
          refine pE_iload_n dX12_poorest_21 rfl rfl ?_
          refine pE_callV (d' := 1) (as := [_]) dX12_poorest_22 lkX12_397 (cwX12_lackOf _ _) ivX12_lackOf ⟨_, rfl, rfl⟩ (by first | assumption | rfl) rfl rfl (Nat.le_of_ble_eq_true rfl) (by decide) pKK ?_
          refine M_X12_lackOf (H := H) (T := T) (hH.2.2.2 j (by omega)).2.2.2.1 (hS (16 + j) (by omega)) (hS (8 + j) (by omega)) (by omega) (hr.2.2.2.2 j (by omega)).2.2.2.1 (by have := (hrT.2.2.2.2 j (by omega)).2.2; have := Nat.mul_le_mul_left 1000 hrT.2.1; omega) (hrT.2.2.2.2 j (by omega)).2.1 ?_
          refine pE_aload_n dX12_poorest_25 rfl rfl ?_
          refine pE_iload_n dX12_poorest_26 rfl rfl ?_
          refine pE_callV (d' := 1) (as := [_]) dX12_poorest_27 lkX12_397 (cwX12_lackOf _ _) ivX12_lackOf ⟨_, rfl, rfl⟩ (by first | assumption | rfl) rfl rfl (Nat.le_of_ble_eq_true rfl) (by decide) pKK ?_
          refine M_X12_lackOf (H := H) (T := T) (hH.2.2.2 i (by omega)).2.2.2.1 (hS (16 + i) (by omega)) (hS (8 + i) (by omega)) (by omega) (hr.2.2.2.2 i (by omega)).2.2.2.1 (by have := (hrT.2.2.2.2 i (by omega)).2.2; have := Nat.mul_le_mul_left 1000 hrT.2.1; omega) (hrT.2.2.2.2 i (by omega)).2.1 ?_
          refine pE_icmp_le (tgt := 35) dX12_poorest_30 (by decide) (fun h30 => ?_) (fun h30 => ?_)
          · have g30 := nq_le (by omega) (by omega) h30
            refine pE_iincN (c0 := 1) (lc' := [_, _, some (.int _)]) dX12_poorest_35 rfl rfl rfl rfl ?_
            refine pE_goto (tgt := 8) dX12_poorest_38 (by decide) ?_
            refine pE_cg (ih (j + 1) (by omega) (by omega)) (by
                first
                | (rw [topN_s2 e (by omega)]; first | done | rfl)
                | (rw [topN_s1 e (by omega)]; first | done | rfl)) rfl rfl rfl rfl
          · have g30 := nq_nle (by omega) (by omega) h30
            refine pE_iload_n dX12_poorest_33 rfl rfl ?_
            refine pE_istore_n (lc' := [_, some (.int _), _]) dX12_poorest_34 rfl (Nat.le_of_ble_eq_true rfl) rfl rfl ?_
            refine pE_iincN (c0 := 1) (lc' := [_, _, some (.int _)]) dX12_poorest_35 rfl rfl rfl rfl ?_
            refine pE_goto (tgt := 8) dX12_poorest_38 (by decide) ?_
            refine pE_cg (ih (j + 1) (by omega) (by omega)) (by
                first
                | (rw [topN_s2 e (by omega)]; first | done | rfl)
                | (rw [topN_s1 e (by omega)]; first | done | rfl)) rfl rfl rfl rfl
set_option maxHeartbeats 4000000 in
set_option maxRecDepth 100000 in
theorem M_X12_poorest {l : Launch} {X : pX} {t g : Nat} {I : pHI} {J : pHJ} {Q : pQ} {H T : pN} (hH : mH H I) (hr : rH H) (hrT : rS 999 H T) (hS : mS 90 T I) (hq : ∀ I1, sm I I1 → Q (some (.int (oI (topN (lackN H T) (H 1)).2))) I1 J (pR t g)) : pM l X yX12_poorest mX12_poorest 2 [.ref 67] pK pK I J (pR t g) Q := by
  refine pM_of rfl (fun h => by cases h) rfl pKM (Nat.le_of_ble_eq_true rfl) ?_
  refine pE_aload_n dX12_poorest_0 rfl rfl ?_
  refine pE_callV (d' := 0) (as := []) dX12_poorest_1 lkX12_394 (cwX12_load _ _) ivX12_load ⟨_, rfl, rfl⟩ (by first | assumption | rfl) rfl rfl (Nat.le_of_ble_eq_true rfl) (by decide) pKK ?_
  refine M_X12_load ?_
  refine pE_iconst (v := -1) dX12_poorest_4 rfl ?_
  refine pE_istore_n (lc' := [_, some (.int _), _]) dX12_poorest_5 rfl (Nat.le_of_ble_eq_true rfl) rfl rfl ?_
  refine pE_iconst (v := nI 0) dX12_poorest_6 rfl ?_
  refine pE_istore_n (lc' := [_, _, some (.int _)]) dX12_poorest_7 rfl (Nat.le_of_ble_eq_true rfl) rfl rfl ?_
  exact L_X12_poorest (hH.sm sm.load) hr hrT hS.load (hq _ sm.load) (H 1 + 1) 0 (by omega) (by omega)
set_option maxHeartbeats 4000000 in
set_option maxRecDepth 100000 in
theorem L_X11_law {l : Launch} {X : pX} {t g : Nat} {I : pHI} {J : pHJ} {Q : pQ} {x : Int32} {H T : pN} (ht : isH t) (hH : cH t H I) (hr : rH H) (hS : cS 33 T I) (hrT : rS 999 H T) (x1 : -999 ≤ x.toInt) (x2 : x.toInt ≤ 999) (hq : Q (some (.int (nI (cntP (lawB H T x.toInt) (H 1))))) I J (pR t g)) : ∀ (n j : Nat) (v4 : Option Value), H 1 - j < n → j ≤ H 1 → pE l X mX11_law 1 pK 20 [some (.ref 0), some (.int x), some (.int (nI (cntP (lawB H T x.toInt) j))), some (.int (nI j)), v4] [] pK I J (pR t g) Q := by
  obtain ⟨fHFht0, fHFht1, fHFht2, fHFht3, fHFht4, fHFht5, fHFht6, fHFht7, fHFht8, fHFht9, fHFht10, fHFht11, fHFht12, fHFht13, fHFht14, fHFht15, fHFht16, fHFht17, fHFht18, fHFht19, fHFht20, fHFht21, fHFht22, fHFht23, fHFht24, fHFht25, fHFht26⟩ := HF t g ht
  intro n
  induction n with
  | zero => intro j v4 hn hj; exact absurd hn (Nat.not_lt_zero _)
  | succ n ih =>
    intro j v4 hn hj
    have hn8 := hr.2.1
    have hcn := cntP_le (lawB H T x.toInt) j
    have hb1 : j < 8 → H (32 + j) ≤ 999 := fun h => (hr.2.2.2.2 j h).2.2.2.1
    have hb3 : j < 8 → T (8 + j) ≤ 9999 := fun h => (hrT.2.2.2.2 j h).2.1
    have hb2 : j < 8 → T (16 + j) ≤ 999000 := fun h => by have := (hrT.2.2.2.2 j h).2.2; have := Nat.mul_le_mul_left 1000 hrT.2.1; omega
    have hln : j < 8 → lawN H x.toInt j ≤ 1998 := fun h => lawN_le (hb1 h) x2
    refine pE_iload_n dX11_law_20 rfl rfl ?_
    refine pE_aload_n dX11_law_21 rfl rfl ?_
    refine pE_getR dX11_law_22 flX11_29 rfl (by first | assumption | rfl) (by first | assumption | rfl) ?_
    refine pE_getI dX11_law_25 flX11_110 rfl (Or.inl rfl) (by first | assumption | rfl) ?_
    rw [hH.2.2.1]
    refine pE_icmp_ge (tgt := 81) dX11_law_28 (by decide) (fun h28 => ?_) (fun h28 => ?_)
    · have g28 := nq_le (by omega) (by omega) h28
      refine pE_iload_n dX11_law_81 rfl rfl ?_
      refine pE_iret dX11_law_82 rfl rfl ?_
      obtain rfl : j = H 1 := by omega
      exact hq
    · have g28 := nq_nle (by omega) (by omega) h28
      refine pE_iconst (v := nI 0) dX11_law_31 rfl ?_
      refine pE_aload_n dX11_law_32 rfl rfl ?_
      refine pE_getR dX11_law_33 flX11_29 rfl (by first | assumption | rfl) (by first | assumption | rfl) ?_
      refine pE_getR dX11_law_36 flX11_133 rfl (by first | assumption | rfl) (by first | assumption | rfl) ?_
      refine pE_iload_n dX11_law_39 rfl rfl ?_
      refine pE_ialoadN dX11_law_40 (by first | assumption | rfl) (by first | assumption | omega) (by omega) ?_
      rw [(hH.2.2.2.2.2 j (by omega)).2.2.2.1]
      refine pE_iload_n dX11_law_41 rfl rfl ?_
      refine pE_iadd dX11_law_42 ?_
      refine pE_max dX11_law_43 lkX11_285 (by decide) (Nat.le_of_ble_eq_true rfl) ?_
      rw [law_max (hb1 (by omega)) x1 x2]
      refine pE_istore (lc' := [_, _, _, _, some (.int _)]) dX11_law_46 (Nat.le_of_ble_eq_true rfl) rfl rfl ?_
      refine pE_iload dX11_law_48 rfl ?_
      refine pE_aload_n dX11_law_50 rfl rfl ?_
      refine pE_getR dX11_law_51 flX11_39 rfl (by first | assumption | rfl) (by first | assumption | rfl) ?_
      refine pE_getR dX11_law_54 flX11_145 rfl (by first | assumption | rfl) (by first | assumption | rfl) ?_
      refine pE_iload_n dX11_law_57 rfl rfl ?_
      refine pE_ialoadN dX11_law_58 (by first | assumption | rfl) (by first | assumption | omega) (by omega) ?_
      rw [(hS.2.2.2.2 j (by omega)).2.2]
      refine pE_iaddN dX11_law_59 ?_
      refine pE_aload_n dX11_law_60 rfl rfl ?_
      refine pE_getR dX11_law_61 flX11_39 rfl (by first | assumption | rfl) (by first | assumption | rfl) ?_
      refine pE_getR dX11_law_64 flX11_142 rfl (by first | assumption | rfl) (by first | assumption | rfl) ?_
      refine pE_iload_n dX11_law_67 rfl rfl ?_
      refine pE_ialoadN dX11_law_68 (by first | assumption | rfl) (by first | assumption | omega) (by omega) ?_
      rw [(hS.2.2.2.2 j (by omega)).2.1]
      refine pE_icmp_le (tgt := 75) dX11_law_69 (by decide) (fun h69 => ?_) (fun h69 => ?_)
      · have g69 := nq_le (by omega) (by omega) h69
        refine pE_iincN (c0 := 1) (lc' := [_, _, _, some (.int _), _]) dX11_law_75 rfl rfl rfl rfl ?_
        refine pE_goto (tgt := 20) dX11_law_78 (by decide) ?_
        refine pE_cg (ih (j + 1) (some (.int (nI (lawN H x.toInt j)))) (by omega) (by omega)) (by
            simp only [cntP, lawB_eq, decide_eq_true_eq]
            first | (rw [if_pos (by omega)]; done) | (rw [if_neg (by omega)]; first | done | rfl)) rfl rfl rfl rfl
      · have g69 := nq_nle (by omega) (by omega) h69
        refine pE_iincN (c0 := 1) (lc' := [_, _, some (.int _), _, _]) dX11_law_72 rfl rfl rfl rfl ?_
        refine pE_iincN (c0 := 1) (lc' := [_, _, _, some (.int _), _]) dX11_law_75 rfl rfl rfl rfl ?_
        refine pE_goto (tgt := 20) dX11_law_78 (by decide) ?_
        refine pE_cg (ih (j + 1) (some (.int (nI (lawN H x.toInt j)))) (by omega) (by omega)) (by
            simp only [cntP, lawB_eq, decide_eq_true_eq]
            first | (rw [if_pos (by omega)]; done) | (rw [if_neg (by omega)]; first | done | rfl)) rfl rfl rfl rfl
set_option maxHeartbeats 4000000 in
set_option maxRecDepth 100000 in
theorem M_X11_law {l : Launch} {X : pX} {t g : Nat} {I : pHI} {J : pHJ} {Q : pQ} {x : Int32} {H T : pN} (ht : isH t) (hH : cH t H I) (hr : rH H) (hS : cS 33 T I) (hrT : rS 999 H T) (h1 : -999 ≤ x.toInt → x.toInt ≤ 999 → Q (some (.int (nI (cntP (lawB H T x.toInt) (H 1))))) I J (pR t g)) (h0 : (x.toInt < -999 ∨ 999 < x.toInt) → Q (some (.int (-1))) I J (pR t g)) : pM l X yX11_law mX11_law 1 [.ref 0, .int x] pK pK I J (pR t g) Q := by
  obtain ⟨fHFht0, fHFht1, fHFht2, fHFht3, fHFht4, fHFht5, fHFht6, fHFht7, fHFht8, fHFht9, fHFht10, fHFht11, fHFht12, fHFht13, fHFht14, fHFht15, fHFht16, fHFht17, fHFht18, fHFht19, fHFht20, fHFht21, fHFht22, fHFht23, fHFht24, fHFht25, fHFht26⟩ := HF t g ht
  refine pM_of rfl (fun h => by cases h) rfl pKM (Nat.le_of_ble_eq_true rfl) ?_
  refine pE_iload_n dX11_law_0 rfl rfl ?_
  refine pE_sipush (v := -999) dX11_law_1 rfl ?_
  refine pE_icmp_lt (tgt := 14) dX11_law_4 (by decide) (fun h4 => ?_) (fun h4 => ?_)
  · refine pE_iconst (v := -1) dX11_law_14 rfl ?_
    refine pE_iret dX11_law_15 rfl rfl ?_
    simp only [Int32.lt_iff_toInt_lt, Int32.le_iff_toInt_le, m999, nI_toInt (show 999 < 2 ^ 31 by omega)] at *
    exact h0 (by omega)
  · refine pE_iload_n dX11_law_7 rfl rfl ?_
    refine pE_sipush (v := nI 999) dX11_law_8 rfl ?_
    refine pE_icmp_le (tgt := 16) dX11_law_11 (by decide) (fun h11 => ?_) (fun h11 => ?_)
    · have x1 : -999 ≤ x.toInt := by rw [Int32.lt_iff_toInt_lt, m999] at h4; omega
      have x2 : x.toInt ≤ 999 := by rw [Int32.le_iff_toInt_le, nI_toInt (by omega)] at h11; omega
      refine pE_iconst (v := nI 0) dX11_law_16 rfl ?_
      refine pE_istore_n (lc' := [_, _, some (.int _), _, _]) dX11_law_17 rfl (Nat.le_of_ble_eq_true rfl) rfl rfl ?_
      refine pE_iconst (v := nI 0) dX11_law_18 rfl ?_
      refine pE_istore_n (lc' := [_, _, _, some (.int _), _]) dX11_law_19 rfl (Nat.le_of_ble_eq_true rfl) rfl rfl ?_
      exact L_X11_law ht hH hr hS hrT x1 x2 (h1 x1 x2) (H 1 + 1) 0 _ (by omega) (by omega)
    · refine pE_iconst (v := -1) dX11_law_14 rfl ?_
      refine pE_iret dX11_law_15 rfl rfl ?_
      simp only [Int32.lt_iff_toInt_lt, Int32.le_iff_toInt_le, m999, nI_toInt (show 999 < 2 ^ 31 by omega)] at *
      exact h0 (by omega)
set_option maxHeartbeats 4000000 in
set_option maxRecDepth 100000 in
theorem L_X12_law {l : Launch} {X : pX} {t g : Nat} {I : pHI} {J : pHJ} {Q : pQ} {x : Int32} {H T : pN} (hH : mH H I) (hr : rH H) (hrT : rS 999 H T) (hS : mS 90 T I) (x1 : -999 ≤ x.toInt) (x2 : x.toInt ≤ 999) (hq : Q (some (.int (nI (cntP (lawB H T x.toInt) (H 1))))) I J (pR t g)) : ∀ (n j : Nat) (v4 : Option Value), H 1 - j < n → j ≤ H 1 → pE l X mX12_law 1 pK 19 [some (.ref 67), some (.int x), some (.int (nI (cntP (lawB H T x.toInt) j))), some (.int (nI j)), v4] [] pK I J (pR t g) Q := by
  intro n
  induction n with
  | zero => intro j v4 hn hj; exact absurd hn (Nat.not_lt_zero _)
  | succ n ih =>
    intro j v4 hn hj
    have hn8 := hr.2.1
    have hcn := cntP_le (lawB H T x.toInt) j
    have hb1 : j < 8 → H (32 + j) ≤ 999 := fun h => (hr.2.2.2.2 j h).2.2.2.1
    have hb3 : j < 8 → T (8 + j) ≤ 9999 := fun h => (hrT.2.2.2.2 j h).2.1
    have hb2 : j < 8 → T (16 + j) ≤ 999000 := fun h => by have := (hrT.2.2.2.2 j h).2.2; have := Nat.mul_le_mul_left 1000 hrT.2.1; omega
    have hln : j < 8 → lawN H x.toInt j ≤ 1998 := fun h => lawN_le (hb1 h) x2
    refine pE_iload_n dX12_law_19 rfl rfl ?_
    refine pE_aload_n dX12_law_20 rfl rfl ?_
    refine pE_getI dX12_law_21 flX12_350 rfl (Or.inl rfl) (by first | assumption | rfl) ?_
    rw [hH.2.1]
    refine pE_icmp_ge (tgt := 93) dX12_law_24 (by decide) (fun h24 => ?_) (fun h24 => ?_)
    · have g24 := nq_le (by omega) (by omega) h24
      refine pE_iload_n dX12_law_93 rfl rfl ?_
      refine pE_iret dX12_law_94 rfl rfl ?_
      obtain rfl : j = H 1 := by omega
      exact hq
    · have g24 := nq_nle (by omega) (by omega) h24
      refine pE_aload_n dX12_law_27 rfl rfl ?_
      refine pE_getR dX12_law_28 flX12_76 rfl (by first | assumption | rfl) (by first | assumption | rfl) ?_
      refine pE_iload_n dX12_law_31 rfl rfl ?_
      refine pE_ialoadN dX12_law_32 (by first | assumption | rfl) (by first | assumption | omega) (by omega) ?_
      rw [(hH.2.2.2 j (by omega)).2.2.2.1]
      refine pE_iload_n dX12_law_33 rfl rfl ?_
      refine pE_iadd dX12_law_34 ?_
      refine pE_if_le (tgt := 49) dX12_law_35 (by decide) (fun h35 => ?_) (fun h35 => ?_)
      · refine pE_iconst (v := nI 0) dX12_law_49 rfl ?_
        rw [lawN_zero (hb1 (by omega)) x1 x2 h35]
        refine pE_istore (lc' := [_, _, _, _, some (.int _)]) dX12_law_50 (Nat.le_of_ble_eq_true rfl) rfl rfl ?_
        refine pE_iload_n dX12_law_52 rfl rfl ?_
        refine pE_iload dX12_law_53 rfl ?_
        refine pE_aload_n dX12_law_55 rfl rfl ?_
        refine pE_getR dX12_law_56 flX12_85 rfl (by first | assumption | rfl) (by first | assumption | rfl) ?_
        refine pE_bipush (v := nI 16) dX12_law_59 rfl ?_
        refine pE_iload_n dX12_law_61 rfl rfl ?_
        refine pE_iaddN dX12_law_62 ?_
        refine pE_ialoadN dX12_law_63 (by first | assumption | rfl) (by first | assumption | omega) (by omega) ?_
        rw [hS (16 + j) (by omega)]
        refine pE_iaddN dX12_law_64 ?_
        refine pE_aload_n dX12_law_65 rfl rfl ?_
        refine pE_getR dX12_law_66 flX12_85 rfl (by first | assumption | rfl) (by first | assumption | rfl) ?_
        refine pE_bipush (v := nI 8) dX12_law_69 rfl ?_
        refine pE_iload_n dX12_law_71 rfl rfl ?_
        refine pE_iaddN dX12_law_72 ?_
        refine pE_ialoadN dX12_law_73 (by first | assumption | rfl) (by first | assumption | omega) (by omega) ?_
        rw [hS (8 + j) (by omega)]
        refine pE_icmp_le (tgt := 81) dX12_law_74 (by decide) (fun h74 => ?_) (fun h74 => ?_)
        · have g74 := nq_le (by omega) (by omega) h74
          refine pE_iconst (v := nI 0) dX12_law_81 rfl ?_
          refine pE_callS (d' := 0) (as := [_]) dX12_law_82 lkX12_304 (cwX12_truth _ _) svX12_truth rfl rfl (Nat.le_of_ble_eq_true rfl) (by decide) pKK ?_
          refine M_X12_truth (by first | exact Or.inl rfl | exact Or.inr rfl) ?_
          refine pE_iaddN dX12_law_85 ?_
          refine pE_istore_n (lc' := [_, _, some (.int _), _, _]) dX12_law_86 rfl (Nat.le_of_ble_eq_true rfl) rfl rfl ?_
          refine pE_iincN (c0 := 1) (lc' := [_, _, _, some (.int _), _]) dX12_law_87 rfl rfl rfl rfl ?_
          refine pE_goto (tgt := 19) dX12_law_90 (by decide) ?_
          refine pE_cg (ih (j + 1) (some (.int (nI (lawN H x.toInt j)))) (by omega) (by omega)) (by
              simp only [cntP, lawB_eq, decide_eq_true_eq]
              first | (rw [if_pos (by omega)]; done) | (rw [if_neg (by omega)]; first | done | rfl)) rfl rfl rfl rfl
        · have g74 := nq_nle (by omega) (by omega) h74
          refine pE_iconst (v := nI 1) dX12_law_77 rfl ?_
          refine pE_goto (tgt := 82) dX12_law_78 (by decide) ?_
          refine pE_callS (d' := 0) (as := [_]) dX12_law_82 lkX12_304 (cwX12_truth _ _) svX12_truth rfl rfl (Nat.le_of_ble_eq_true rfl) (by decide) pKK ?_
          refine M_X12_truth (by first | exact Or.inl rfl | exact Or.inr rfl) ?_
          refine pE_iaddN dX12_law_85 ?_
          refine pE_istore_n (lc' := [_, _, some (.int _), _, _]) dX12_law_86 rfl (Nat.le_of_ble_eq_true rfl) rfl rfl ?_
          refine pE_iincN (c0 := 1) (lc' := [_, _, _, some (.int _), _]) dX12_law_87 rfl rfl rfl rfl ?_
          refine pE_goto (tgt := 19) dX12_law_90 (by decide) ?_
          refine pE_cg (ih (j + 1) (some (.int (nI (lawN H x.toInt j)))) (by omega) (by omega)) (by
              simp only [cntP, lawB_eq, decide_eq_true_eq]
              first | (rw [if_pos (by omega)]; done) | (rw [if_neg (by omega)]; first | done | rfl)) rfl rfl rfl rfl
      · refine pE_aload_n dX12_law_38 rfl rfl ?_
        refine pE_getR dX12_law_39 flX12_76 rfl (by first | assumption | rfl) (by first | assumption | rfl) ?_
        refine pE_iload_n dX12_law_42 rfl rfl ?_
        refine pE_ialoadN dX12_law_43 (by first | assumption | rfl) (by first | assumption | omega) (by omega) ?_
        rw [(hH.2.2.2 j (by omega)).2.2.2.1]
        refine pE_iload_n dX12_law_44 rfl rfl ?_
        refine pE_iadd dX12_law_45 ?_
        rw [lawN_pos (hb1 (by omega)) x1 x2 h35]
        refine pE_goto (tgt := 50) dX12_law_46 (by decide) ?_
        refine pE_istore (lc' := [_, _, _, _, some (.int _)]) dX12_law_50 (Nat.le_of_ble_eq_true rfl) rfl rfl ?_
        refine pE_iload_n dX12_law_52 rfl rfl ?_
        refine pE_iload dX12_law_53 rfl ?_
        refine pE_aload_n dX12_law_55 rfl rfl ?_
        refine pE_getR dX12_law_56 flX12_85 rfl (by first | assumption | rfl) (by first | assumption | rfl) ?_
        refine pE_bipush (v := nI 16) dX12_law_59 rfl ?_
        refine pE_iload_n dX12_law_61 rfl rfl ?_
        refine pE_iaddN dX12_law_62 ?_
        refine pE_ialoadN dX12_law_63 (by first | assumption | rfl) (by first | assumption | omega) (by omega) ?_
        rw [hS (16 + j) (by omega)]
        refine pE_iaddN dX12_law_64 ?_
        refine pE_aload_n dX12_law_65 rfl rfl ?_
        refine pE_getR dX12_law_66 flX12_85 rfl (by first | assumption | rfl) (by first | assumption | rfl) ?_
        refine pE_bipush (v := nI 8) dX12_law_69 rfl ?_
        refine pE_iload_n dX12_law_71 rfl rfl ?_
        refine pE_iaddN dX12_law_72 ?_
        refine pE_ialoadN dX12_law_73 (by first | assumption | rfl) (by first | assumption | omega) (by omega) ?_
        rw [hS (8 + j) (by omega)]
        refine pE_icmp_le (tgt := 81) dX12_law_74 (by decide) (fun h74 => ?_) (fun h74 => ?_)
        · have g74 := nq_le (by omega) (by omega) h74
          refine pE_iconst (v := nI 0) dX12_law_81 rfl ?_
          refine pE_callS (d' := 0) (as := [_]) dX12_law_82 lkX12_304 (cwX12_truth _ _) svX12_truth rfl rfl (Nat.le_of_ble_eq_true rfl) (by decide) pKK ?_
          refine M_X12_truth (by first | exact Or.inl rfl | exact Or.inr rfl) ?_
          refine pE_iaddN dX12_law_85 ?_
          refine pE_istore_n (lc' := [_, _, some (.int _), _, _]) dX12_law_86 rfl (Nat.le_of_ble_eq_true rfl) rfl rfl ?_
          refine pE_iincN (c0 := 1) (lc' := [_, _, _, some (.int _), _]) dX12_law_87 rfl rfl rfl rfl ?_
          refine pE_goto (tgt := 19) dX12_law_90 (by decide) ?_
          refine pE_cg (ih (j + 1) (some (.int (nI (lawN H x.toInt j)))) (by omega) (by omega)) (by
              simp only [cntP, lawB_eq, decide_eq_true_eq]
              first | (rw [if_pos (by omega)]; done) | (rw [if_neg (by omega)]; first | done | rfl)) rfl rfl rfl rfl
        · have g74 := nq_nle (by omega) (by omega) h74
          refine pE_iconst (v := nI 1) dX12_law_77 rfl ?_
          refine pE_goto (tgt := 82) dX12_law_78 (by decide) ?_
          refine pE_callS (d' := 0) (as := [_]) dX12_law_82 lkX12_304 (cwX12_truth _ _) svX12_truth rfl rfl (Nat.le_of_ble_eq_true rfl) (by decide) pKK ?_
          refine M_X12_truth (by first | exact Or.inl rfl | exact Or.inr rfl) ?_
          refine pE_iaddN dX12_law_85 ?_
          refine pE_istore_n (lc' := [_, _, some (.int _), _, _]) dX12_law_86 rfl (Nat.le_of_ble_eq_true rfl) rfl rfl ?_
          refine pE_iincN (c0 := 1) (lc' := [_, _, _, some (.int _), _]) dX12_law_87 rfl rfl rfl rfl ?_
          refine pE_goto (tgt := 19) dX12_law_90 (by decide) ?_
          refine pE_cg (ih (j + 1) (some (.int (nI (lawN H x.toInt j)))) (by omega) (by omega)) (by
              simp only [cntP, lawB_eq, decide_eq_true_eq]
              first | (rw [if_pos (by omega)]; done) | (rw [if_neg (by omega)]; first | done | rfl)) rfl rfl rfl rfl
set_option maxHeartbeats 4000000 in
set_option maxRecDepth 100000 in
theorem M_X12_law {l : Launch} {X : pX} {t g : Nat} {I : pHI} {J : pHJ} {Q : pQ} {x : Int32} {H T : pN} (hH : mH H I) (hr : rH H) (hrT : rS 999 H T) (hS : mS 90 T I) (h1 : -999 ≤ x.toInt → x.toInt ≤ 999 → Q (some (.int (nI (cntP (lawB H T x.toInt) (H 1))))) I J (pR t g)) (h0 : (x.toInt < -999 ∨ 999 < x.toInt) → Q (some (.int (-1))) I J (pR t g)) : pM l X yX12_law mX12_law 1 [.ref 67, .int x] pK pK I J (pR t g) Q := by
  refine pM_of rfl (fun h => by cases h) rfl pKM (Nat.le_of_ble_eq_true rfl) ?_
  refine pE_iload_n dX12_law_0 rfl rfl ?_
  refine pE_sipush (v := -999) dX12_law_1 rfl ?_
  refine pE_sipush (v := nI 999) dX12_law_4 rfl ?_
  refine pE_callS (d' := 0) (as := [_, _, _]) dX12_law_7 lkX12_368 (cwX12_isIn _ _) svX12_isIn rfl rfl (Nat.le_of_ble_eq_true rfl) (by decide) pKK ?_
  refine M_X12_isIn  (fun k1 k2 => ?_) (fun k => ?_)
  · refine pE_if_ne_t (tgt := 15) dX12_law_10 (by decide) nI_1n0 ?_
    have x1 : -999 ≤ x.toInt := by rw [Int32.lt_iff_toInt_lt, m999] at k1; omega
    have x2 : x.toInt ≤ 999 := by rw [Int32.lt_iff_toInt_lt, nI_toInt (by omega)] at k2; omega
    refine pE_iconst (v := nI 0) dX12_law_15 rfl ?_
    refine pE_istore_n (lc' := [_, _, some (.int _), _, _]) dX12_law_16 rfl (Nat.le_of_ble_eq_true rfl) rfl rfl ?_
    refine pE_iconst (v := nI 0) dX12_law_17 rfl ?_
    refine pE_istore_n (lc' := [_, _, _, some (.int _), _]) dX12_law_18 rfl (Nat.le_of_ble_eq_true rfl) rfl rfl ?_
    exact L_X12_law hH hr hrT hS x1 x2 (h1 x1 x2) (H 1 + 1) 0 _ (by omega) (by omega)
  · refine pE_if_ne_f (tgt := 15) dX12_law_10 (by decide) nI_0 ?_
    refine pE_iconst (v := -1) dX12_law_13 rfl ?_
    refine pE_iret dX12_law_14 rfl rfl ?_
    exact h0 (by simp only [Int32.lt_iff_toInt_lt, m999, nI_toInt (show 999 < 2 ^ 31 by omega)] at k; exact k)
set_option maxHeartbeats 4000000 in
set_option maxRecDepth 100000 in
theorem L_X11_carries {l : Launch} {X : pX} {t g : Nat} {I : pHI} {J : pHJ} {Q : pQ} {a b : Nat} {H T : pN} (ht : isH t) (hH : cH t H I) (hr : rH H) (hS : cS 33 T I) (hrT : rS 999 H T) (ha : a < H 1) (hb : b < H 1) (hq : Q (some (.int (nI (carN H T a b (H 0))))) I J (pR t g)) : ∀ (n j : Nat), H 0 - j < n → j ≤ H 0 → pE l X mX11_carries 2 pK 16 [some (.ref 0), some (.int (nI a)), some (.int (nI b)), some (.int (nI (carN H T a b j))), some (.int (nI (j + 1)))] [] pK I J (pR t g) Q := by
  obtain ⟨fHFht0, fHFht1, fHFht2, fHFht3, fHFht4, fHFht5, fHFht6, fHFht7, fHFht8, fHFht9, fHFht10, fHFht11, fHFht12, fHFht13, fHFht14, fHFht15, fHFht16, fHFht17, fHFht18, fHFht19, fHFht20, fHFht21, fHFht22, fHFht23, fHFht24, fHFht25, fHFht26⟩ := HF t g ht
  intro n
  induction n with
  | zero => intro j hn hj; exact absurd hn (Nat.not_lt_zero _)
  | succ n ih =>
    intro j hn hj
    have hn8 := hr.2.1
    have hn20 := hr.1.2
    have hv9 := (hr.2.2.2.2 b (by omega)).2.2.1
    have hT40 := (hrT.2.2.2.2 a (by omega)).1
    have hb4 : j ≤ 19 → brN (j + 1) (H (24 + b)) ≤ 80 := fun h => by unfold brN; exact Nat.le_trans (Nat.mul_le_mul (by omega : j + 1 ≤ 20) (by omega : 1 + H (24 + b) / 3 ≤ 4)) (by omega)
    refine pE_iload dX11_carries_16 rfl ?_
    refine pE_aload_n dX11_carries_18 rfl rfl ?_
    refine pE_getR dX11_carries_19 flX11_29 rfl (by first | assumption | rfl) (by first | assumption | rfl) ?_
    refine pE_getI dX11_carries_22 flX11_210 rfl (Or.inl rfl) (by first | assumption | rfl) ?_
    rw [hH.1]
    refine pE_icmp_gt (tgt := 67) dX11_carries_25 (by decide) (fun h25 => ?_) (fun h25 => ?_)
    · have g25 := nq_lt (by omega) (by omega) h25
      refine pE_iload_n dX11_carries_67 rfl rfl ?_
      refine pE_iret dX11_carries_68 rfl rfl ?_
      obtain rfl : j = H 0 := by omega
      exact hq
    · have g25 := nq_nlt (by omega) (by omega) h25
      have hb5 := hb4 (by omega)
      refine pE_aload_n dX11_carries_28 rfl rfl ?_
      refine pE_getR dX11_carries_29 flX11_29 rfl (by first | assumption | rfl) (by first | assumption | rfl) ?_
      refine pE_iload dX11_carries_32 rfl ?_
      refine pE_aload_n dX11_carries_34 rfl rfl ?_
      refine pE_getR dX11_carries_35 flX11_29 rfl (by first | assumption | rfl) (by first | assumption | rfl) ?_
      refine pE_getR dX11_carries_38 flX11_130 rfl (by first | assumption | rfl) (by first | assumption | rfl) ?_
      refine pE_iload_n dX11_carries_41 rfl rfl ?_
      refine pE_ialoadN dX11_carries_42 (by first | assumption | rfl) (by first | assumption | omega) (by omega) ?_
      rw [(hH.2.2.2.2.2 b (by omega)).2.2.1]
      refine pE_callV (d' := 0) (as := [_, _]) dX11_carries_43 lkX11_167 (cwX2_breathFor _ _) ivX2_breathFor ⟨_, rfl, rfl⟩ (by first | assumption | rfl) rfl rfl (Nat.le_of_ble_eq_true rfl) (by decide) pKK ?_
      refine M_X2_breathFor ht (by omega) (by omega) ?_
      refine pE_aload_n dX11_carries_46 rfl rfl ?_
      refine pE_getR dX11_carries_47 flX11_39 rfl (by first | assumption | rfl) (by first | assumption | rfl) ?_
      refine pE_getR dX11_carries_50 flX11_139 rfl (by first | assumption | rfl) (by first | assumption | rfl) ?_
      refine pE_iload_n dX11_carries_53 rfl rfl ?_
      refine pE_ialoadN dX11_carries_54 (by first | assumption | rfl) (by first | assumption | omega) (by omega) ?_
      rw [(hS.2.2.2.2 a (by omega)).1]
      refine pE_icmp_gt (tgt := 61) dX11_carries_55 (by decide) (fun h55 => ?_) (fun h55 => ?_)
      · have g55 := nq_lt (by omega) (by omega) h55
        refine pE_iincN (c0 := 1) (lc' := [_, _, _, _, some (.int _)]) dX11_carries_61 rfl rfl rfl rfl ?_
        refine pE_goto (tgt := 16) dX11_carries_64 (by decide) ?_
        refine pE_cg (ih (j + 1) (by omega) (by omega)) (by
            simp only [carN]
            first | (rw [if_pos (by omega)]; done) | (rw [if_neg (by omega)]; first | done | rfl)) rfl rfl rfl rfl
      · have g55 := nq_nlt (by omega) (by omega) h55
        refine pE_iload dX11_carries_58 rfl ?_
        refine pE_istore_n (lc' := [_, _, _, some (.int _), _]) dX11_carries_60 rfl (Nat.le_of_ble_eq_true rfl) rfl rfl ?_
        refine pE_iincN (c0 := 1) (lc' := [_, _, _, _, some (.int _)]) dX11_carries_61 rfl rfl rfl rfl ?_
        refine pE_goto (tgt := 16) dX11_carries_64 (by decide) ?_
        refine pE_cg (ih (j + 1) (by omega) (by omega)) (by
            simp only [carN]
            first | (rw [if_pos (by omega)]; done) | (rw [if_neg (by omega)]; first | done | rfl)) rfl rfl rfl rfl
set_option maxHeartbeats 4000000 in
set_option maxRecDepth 100000 in
theorem M_X11_carries {l : Launch} {X : pX} {t g : Nat} {I : pHI} {J : pHJ} {Q : pQ} {x y : Int32} {H T : pN} (ht : isH t) (hH : cH t H I) (hr : rH H) (hS : cS 33 T I) (hrT : rS 999 H T) (h1 : ∀ a b, a < H 1 → x = nI a → b < H 1 → y = nI b → a ≠ b → Q (some (.int (nI (carN H T a b (H 0))))) I J (pR t g)) (h0 : (∀ a b, a < H 1 → x = nI a → b < H 1 → y = nI b → a = b) → Q (some (.int (-1))) I J (pR t g)) : pM l X yX11_carries mX11_carries 2 [.ref 0, .int x, .int y] pK pK I J (pR t g) Q := by
  refine pM_of rfl (fun h => by cases h) rfl pKM (Nat.le_of_ble_eq_true rfl) ?_
  refine pE_aload_n dX11_carries_0 rfl rfl ?_
  refine pE_iload_n dX11_carries_1 rfl rfl ?_
  refine pE_iload_n dX11_carries_2 rfl rfl ?_
  refine pE_callV (d' := 1) (as := [_, _]) dX11_carries_3 lkX11_182 (cwX11_areTwo _ _) ivX11_areTwo ⟨_, rfl, rfl⟩ (by first | assumption | rfl) rfl rfl (Nat.le_of_ble_eq_true rfl) (by decide) pKK ?_
  refine M_X11_areTwo (H := H) ht hH.2.2.1 hr.2.1 (fun a b ha e1 hb e2 hne => ?_) (fun hno => ?_)
  · subst e1 e2
    refine pE_if_ne_t (tgt := 11) dX11_carries_6 (by decide) nI_1n0 ?_
    refine pE_iconst (v := nI 0) dX11_carries_11 rfl ?_
    refine pE_istore_n (lc' := [_, _, _, some (.int _), _]) dX11_carries_12 rfl (Nat.le_of_ble_eq_true rfl) rfl rfl ?_
    refine pE_iconst (v := nI 1) dX11_carries_13 rfl ?_
    refine pE_istore (lc' := [_, _, _, _, some (.int _)]) dX11_carries_14 (Nat.le_of_ble_eq_true rfl) rfl rfl ?_
    exact L_X11_carries ht hH hr hS hrT ha hb (h1 a b ha rfl hb rfl hne) (H 0 + 1) 0 (by omega) (by omega)
  · refine pE_if_ne_f (tgt := 11) dX11_carries_6 (by decide) nI_0 ?_
    refine pE_iconst (v := -1) dX11_carries_9 rfl ?_
    refine pE_iret dX11_carries_10 rfl rfl ?_
    exact h0 hno
set_option maxHeartbeats 4000000 in
set_option maxRecDepth 100000 in
theorem L_X12_carriesOf {l : Launch} {X : pX} {t g : Nat} {I : pHI} {J : pHJ} {Q : pQ} {a b : Nat} {H T : pN} (hH : mH H I) (hr : rH H) (hrT : rS 999 H T) (hS : mS 91 T I) (ha : a < H 1) (hb : b < H 1) (hq : Q (some (.int (nI (carN H T a b (H 0))))) I J (pR t g)) : ∀ (n j : Nat), H 0 - j < n → j ≤ H 0 → pE l X mX12_carriesOf 1 pK 5 [some (.ref 67), some (.int (nI a)), some (.int (nI b)), some (.int (nI (carN H T a b j))), some (.int (nI (j + 1)))] [] pK I J (pR t g) Q := by
  intro n
  induction n with
  | zero => intro j hn hj; exact absurd hn (Nat.not_lt_zero _)
  | succ n ih =>
    intro j hn hj
    have hn8 := hr.2.1
    have hn20 := hr.1.2
    have hv9 := (hr.2.2.2.2 b (by omega)).2.2.1
    have hT40 := (hrT.2.2.2.2 a (by omega)).1
    have hb4 : j ≤ 19 → brN (j + 1) (H (24 + b)) ≤ 80 := fun h => by unfold brN; exact Nat.le_trans (Nat.mul_le_mul (by omega : j + 1 ≤ 20) (by omega : 1 + H (24 + b) / 3 ≤ 4)) (by omega)
    refine pE_iload dX12_carriesOf_5 rfl ?_
    refine pE_aload_n dX12_carriesOf_7 rfl rfl ?_
    refine pE_getI dX12_carriesOf_8 flX12_82 rfl (Or.inl rfl) (by first | assumption | rfl) ?_
    rw [hH.1]
    refine pE_icmp_gt (tgt := 39) dX12_carriesOf_11 (by decide) (fun h11 => ?_) (fun h11 => ?_)
    · have g11 := nq_lt (by omega) (by omega) h11
      refine pE_iload_n dX12_carriesOf_39 rfl rfl ?_
      refine pE_iret dX12_carriesOf_40 rfl rfl ?_
      obtain rfl : j = H 0 := by omega
      exact hq
    · have g11 := nq_nlt (by omega) (by omega) h11
      have hb5 := hb4 (by omega)
      refine pE_aload_n dX12_carriesOf_14 rfl rfl ?_
      refine pE_iload dX12_carriesOf_15 rfl ?_
      refine pE_iload_n dX12_carriesOf_17 rfl rfl ?_
      refine pE_callV (d' := 0) (as := [_, _]) dX12_carriesOf_18 lkX12_385 (cwX12_breathFor _ _) ivX12_breathFor ⟨_, rfl, rfl⟩ (by first | assumption | rfl) rfl rfl (Nat.le_of_ble_eq_true rfl) (by decide) pKK ?_
      refine M_X12_breathFor_c (H := H) (by omega) (hH.2.2.2 b hb).2.2.1 hv9 ?_
      refine pE_aload_n dX12_carriesOf_21 rfl rfl ?_
      refine pE_getR dX12_carriesOf_22 flX12_88 rfl (by first | assumption | rfl) (by first | assumption | rfl) ?_
      refine pE_iload_n dX12_carriesOf_25 rfl rfl ?_
      refine pE_ialoadN dX12_carriesOf_26 (by first | assumption | rfl) (by first | assumption | omega) (by omega) ?_
      rw [hS a (by omega)]
      refine pE_icmp_gt (tgt := 33) dX12_carriesOf_27 (by decide) (fun h27 => ?_) (fun h27 => ?_)
      · have g27 := nq_lt (by omega) (by omega) h27
        refine pE_iincN (c0 := 1) (lc' := [_, _, _, _, some (.int _)]) dX12_carriesOf_33 rfl rfl rfl rfl ?_
        refine pE_goto (tgt := 5) dX12_carriesOf_36 (by decide) ?_
        refine pE_cg (ih (j + 1) (by omega) (by omega)) (by
            simp only [carN]
            first | (rw [if_pos (by omega)]; done) | (rw [if_neg (by omega)]; first | done | rfl)) rfl rfl rfl rfl
      · have g27 := nq_nlt (by omega) (by omega) h27
        refine pE_iload dX12_carriesOf_30 rfl ?_
        refine pE_istore_n (lc' := [_, _, _, some (.int _), _]) dX12_carriesOf_32 rfl (Nat.le_of_ble_eq_true rfl) rfl rfl ?_
        refine pE_iincN (c0 := 1) (lc' := [_, _, _, _, some (.int _)]) dX12_carriesOf_33 rfl rfl rfl rfl ?_
        refine pE_goto (tgt := 5) dX12_carriesOf_36 (by decide) ?_
        refine pE_cg (ih (j + 1) (by omega) (by omega)) (by
            simp only [carN]
            first | (rw [if_pos (by omega)]; done) | (rw [if_neg (by omega)]; first | done | rfl)) rfl rfl rfl rfl
set_option maxHeartbeats 4000000 in
set_option maxRecDepth 100000 in
theorem M_X12_carriesOf {l : Launch} {X : pX} {t g : Nat} {I : pHI} {J : pHJ} {Q : pQ} {a b : Nat} {H T : pN} (hH : mH H I) (hr : rH H) (hrT : rS 999 H T) (hS : mS 91 T I) (ha : a < H 1) (hb : b < H 1) (hq : Q (some (.int (nI (carN H T a b (H 0))))) I J (pR t g)) : pM l X yX12_carriesOf mX12_carriesOf 1 [.ref 67, .int (nI a), .int (nI b)] pK pK I J (pR t g) Q := by
  refine pM_of rfl (fun h => by cases h) rfl pKM (Nat.le_of_ble_eq_true rfl) ?_
  refine pE_iconst (v := nI 0) dX12_carriesOf_0 rfl ?_
  refine pE_istore_n (lc' := [_, _, _, some (.int _), _]) dX12_carriesOf_1 rfl (Nat.le_of_ble_eq_true rfl) rfl rfl ?_
  refine pE_iconst (v := nI 1) dX12_carriesOf_2 rfl ?_
  refine pE_istore (lc' := [_, _, _, _, some (.int _)]) dX12_carriesOf_3 (Nat.le_of_ble_eq_true rfl) rfl rfl ?_
  exact L_X12_carriesOf hH hr hrT hS ha hb hq (H 0 + 1) 0 (by omega) (by omega)
set_option maxHeartbeats 4000000 in
set_option maxRecDepth 100000 in
theorem M_X12_carries {l : Launch} {X : pX} {t g : Nat} {I : pHI} {J : pHJ} {Q : pQ} {x y : Int32} {H T : pN} (hH : mH H I) (hr : rH H) (hrT : rS 999 H T) (hS : mS 90 T I) (h1 : ∀ a b, a < H 1 → x = nI a → b < H 1 → y = nI b → a ≠ b → ∀ I1, sm I I1 → Q (some (.int (nI (carN H T a b (H 0))))) I1 J (pR t g)) (h0 : (∀ a b, a < H 1 → x = nI a → b < H 1 → y = nI b → a = b) → Q (some (.int (-1))) I J (pR t g)) : pM l X yX12_carries mX12_carries 2 [.ref 67, .int x, .int y] pK pK I J (pR t g) Q := by
  have hn8 := hr.2.1
  refine pM_of rfl (fun h => by cases h) rfl pKM (Nat.le_of_ble_eq_true rfl) ?_
  refine pE_aload_n dX12_carries_0 rfl rfl ?_
  refine pE_iload_n dX12_carries_1 rfl rfl ?_
  refine pE_callV (d' := 1) (as := [_]) dX12_carries_2 lkX12_382 (cwX12_isTenant _ _) ivX12_isTenant ⟨_, rfl, rfl⟩ (by first | assumption | rfl) rfl rfl (Nat.le_of_ble_eq_true rfl) (by decide) pKK ?_
  refine M_X12_isTenant (H := H) hH.2.1 hr.2.1 (fun a ha e1 => ?_) (fun hno => ?_)
  · subst e1
    refine pE_if_eq_f (tgt := 21) dX12_carries_5 (by decide) nI_1n0 ?_
    refine pE_aload_n dX12_carries_8 rfl rfl ?_
    refine pE_iload_n dX12_carries_9 rfl rfl ?_
    refine pE_callV (d' := 1) (as := [_]) dX12_carries_10 lkX12_382 (cwX12_isTenant _ _) ivX12_isTenant ⟨_, rfl, rfl⟩ (by first | assumption | rfl) rfl rfl (Nat.le_of_ble_eq_true rfl) (by decide) pKK ?_
    refine M_X12_isTenant (H := H) hH.2.1 hr.2.1 (fun b hb e2 => ?_) (fun hno => ?_)
    · subst e2
      refine pE_if_eq_f (tgt := 21) dX12_carries_13 (by decide) nI_1n0 ?_
      refine pE_iload_n dX12_carries_16 rfl rfl ?_
      refine pE_iload_n dX12_carries_17 rfl rfl ?_
      refine pE_icmp_ne (tgt := 23) dX12_carries_18 (by decide) (fun h18 => ?_) (fun h18 => ?_)
      · have g18 := nq_ne (by omega) (by omega) h18
        refine pE_aload_n dX12_carries_23 rfl rfl ?_
        refine pE_callV (d' := 0) (as := []) dX12_carries_24 lkX12_394 (cwX12_load _ _) ivX12_load ⟨_, rfl, rfl⟩ (by first | assumption | rfl) rfl rfl (Nat.le_of_ble_eq_true rfl) (by decide) pKK ?_
        refine M_X12_load ?_
        refine pE_aload_n dX12_carries_27 rfl rfl ?_
        refine pE_iload_n dX12_carries_28 rfl rfl ?_
        refine pE_iload_n dX12_carries_29 rfl rfl ?_
        refine pE_callV (d' := 1) (as := [_, _]) dX12_carries_30 lkX12_430 (cwX12_carriesOf _ _) ivX12_carriesOf ⟨_, rfl, rfl⟩ (by first | assumption | rfl) rfl rfl (Nat.le_of_ble_eq_true rfl) (by decide) pKK ?_
        refine M_X12_carriesOf (hH.sm sm.load) hr hrT hS.load ha hb ?_
        refine pE_iret dX12_carries_33 rfl rfl ?_
        exact h1 a b ha rfl hb rfl (by omega) _ sm.load
      · have g18 := nq_eq (by omega) (by omega) h18
        refine pE_iconst (v := -1) dX12_carries_21 rfl ?_
        refine pE_iret dX12_carries_22 rfl rfl ?_
        first | exact h0 (fun a b ha e1 hb e2 => absurd e1 (hno a ha)) | exact h0 (fun a b ha e1 hb e2 => absurd e2 (hno b hb)) | exact h0 (fun a2 b2 ha2 e1 hb2 e2 => by have := nq_eq (by omega) (by omega) e1; have := nq_eq (by omega) (by omega) e2; omega)
    · refine pE_if_eq_t (tgt := 21) dX12_carries_13 (by decide) nI_0 ?_
      refine pE_iconst (v := -1) dX12_carries_21 rfl ?_
      refine pE_iret dX12_carries_22 rfl rfl ?_
      first | exact h0 (fun a b ha e1 hb e2 => absurd e1 (hno a ha)) | exact h0 (fun a b ha e1 hb e2 => absurd e2 (hno b hb)) | exact h0 (fun a2 b2 ha2 e1 hb2 e2 => by have := nq_eq (by omega) (by omega) e1; have := nq_eq (by omega) (by omega) e2; omega)
  · refine pE_if_eq_t (tgt := 21) dX12_carries_5 (by decide) nI_0 ?_
    refine pE_iconst (v := -1) dX12_carries_21 rfl ?_
    refine pE_iret dX12_carries_22 rfl rfl ?_
    first | exact h0 (fun a b ha e1 hb e2 => absurd e1 (hno a ha)) | exact h0 (fun a b ha e1 hb e2 => absurd e2 (hno b hb)) | exact h0 (fun a2 b2 ha2 e1 hb2 e2 => by have := nq_eq (by omega) (by omega) e1; have := nq_eq (by omega) (by omega) e2; omega)
set_option maxHeartbeats 4000000 in
set_option maxRecDepth 100000 in
theorem M_X5_get {l : Launch} {X : pX} {t g : Nat} {I : pHI} {J : pHJ} {Q : pQ} {x : Int32} {n : Nat} {L : Nat → Int32} (hL : cL 45 1 46 I n L) (h1 : ∀ i, i < n → x = nI i → Q (some (.int (L i))) I J (pR t g)) (h0 : (∀ i, i < n → x ≠ nI i) → Q (some (.int (-2))) I J (pR t g)) : pM l X yX5_get mX5_get 0 [.ref 45, .int x] pK pK I J (pR t g) Q := by
  refine pM_of rfl (fun h => by cases h) rfl pKM (Nat.le_of_ble_eq_true rfl) ?_
  obtain ⟨l1, l2, l3⟩ := hL
  rcases nI_or x with hx | ⟨b, hb, rfl⟩
  · refine pE_iload_n dX5_get_0 rfl rfl ?_
    refine pE_if_lt (tgt := 30) dX5_get_1 (by decide) (fun h1' => ?_) (fun h1' => ?_)
    · refine pE_bipush (v := -2) dX5_get_30 rfl ?_
      refine pE_iret dX5_get_32 rfl rfl ?_
      exact h0 (fun b hb e => by rw [e] at hx; exact absurd hx (nI_pos (by omega)))
    · exact absurd hx h1'
  · refine pE_iload_n dX5_get_0 rfl rfl ?_
    refine pE_if_lt (tgt := 30) dX5_get_1 (by decide) (fun h1' => ?_) (fun h1' => ?_)
    · exact absurd h1' (nI_pos (by omega))
    · refine pE_iload_n dX5_get_4 rfl rfl ?_
      refine pE_aload_n dX5_get_5 rfl rfl ?_
      refine pE_getI dX5_get_6 flX5_15 rfl (Or.inl rfl) (by first | assumption | rfl) ?_
      rw [l1]
      refine pE_icmp_ge (tgt := 30) dX5_get_9 (by decide) (fun h9 => ?_) (fun h9 => ?_)
      · have g9 := nq_le (by omega) (by omega) h9
        refine pE_bipush (v := -2) dX5_get_30 rfl ?_
        refine pE_iret dX5_get_32 rfl rfl ?_
        first | exact h1 b (by omega) rfl | exact h0 (fun i hi e => by have := nq_eq hb (by omega) e; omega)
      · have g9 := nq_nle (by omega) (by omega) h9
        refine pE_iload_n dX5_get_12 rfl rfl ?_
        refine pE_aload_n dX5_get_13 rfl rfl ?_
        refine pE_getR dX5_get_14 flX5_9 rfl (by first | assumption | rfl) (by first | assumption | rfl) ?_
        refine pE_alenN dX5_get_17 (by first | assumption | rfl) (by decide) ?_
        refine pE_icmp_ge (tgt := 30) dX5_get_18 (by decide) (fun h18 => ?_) (fun h18 => ?_)
        · have g18 := nq_le (by omega) (by omega) h18
          refine pE_bipush (v := -2) dX5_get_30 rfl ?_
          refine pE_iret dX5_get_32 rfl rfl ?_
          first | exact h1 b (by omega) rfl | exact h0 (fun i hi e => by have := nq_eq hb (by omega) e; omega)
        · have g18 := nq_nle (by omega) (by omega) h18
          refine pE_aload_n dX5_get_21 rfl rfl ?_
          refine pE_getR dX5_get_22 flX5_9 rfl (by first | assumption | rfl) (by first | assumption | rfl) ?_
          refine pE_iload_n dX5_get_25 rfl rfl ?_
          refine pE_ialoadN dX5_get_26 (by first | assumption | rfl) (by first | assumption | omega) (by omega) ?_
          rw [l3 b (by omega)]
          refine pE_goto (tgt := 32) dX5_get_27 (by decide) ?_
          refine pE_iret dX5_get_32 rfl rfl ?_
          first | exact h1 b (by omega) rfl | exact h0 (fun i hi e => by have := nq_eq hb (by omega) e; omega)
set_option maxHeartbeats 4000000 in
set_option maxRecDepth 100000 in
theorem M_X11_lies {l : Launch} {X : pX} {t g : Nat} {I : pHI} {J : pHJ} {Q : pQ} {x : Int32} {n : Nat} {L : Nat → Int32} (hL : cL 45 1 46 I n L) (h1 : ∀ i, i < n → x = nI i → Q (some (.int (L i))) I J (pR t g)) (h0 : (∀ i, i < n → x ≠ nI i) → Q (some (.int (-2))) I J (pR t g)) : pM l X yX11_lies mX11_lies 1 [.ref 0, .int x] pK pK I J (pR t g) Q := by
  refine pM_of rfl (fun h => by cases h) rfl pKM (Nat.le_of_ble_eq_true rfl) ?_
  refine pE_aload_n dX11_lies_0 rfl rfl ?_
  refine pE_getR dX11_lies_1 flX11_56 rfl (by first | assumption | rfl) (by first | assumption | rfl) ?_
  refine pE_iload_n dX11_lies_4 rfl rfl ?_
  refine pE_callV (d' := 0) (as := [_]) dX11_lies_5 lkX11_302 (cwX5_get _ _) ivX5_get ⟨_, rfl, rfl⟩ (by first | assumption | rfl) rfl rfl (Nat.le_of_ble_eq_true rfl) (by decide) pKK ?_
  refine M_X5_get hL (fun i hi e => ?_) (fun hno => ?_)
  · refine pE_iret dX11_lies_8 rfl rfl ?_
    first | exact h1 i hi e | exact h0 hno
  · refine pE_iret dX11_lies_8 rfl rfl ?_
    first | exact h1 i hi e | exact h0 hno
set_option maxHeartbeats 4000000 in
set_option maxRecDepth 100000 in
theorem M_X12_lies {l : Launch} {X : pX} {t g : Nat} {I : pHI} {J : pHJ} {Q : pQ} {x : Int32} {n : Nat} {L : Nat → Int32} (hL : cL 67 52 94 I n L) (h1 : ∀ i, i < n → x = nI i → Q (some (.int (L i))) I J (pR t g)) (h0 : (∀ i, i < n → x ≠ nI i) → Q (some (.int (-2))) I J (pR t g)) : pM l X yX12_lies mX12_lies 1 [.ref 67, .int x] pK pK I J (pR t g) Q := by
  obtain ⟨l1, l2, l3⟩ := hL
  refine pM_of rfl (fun h => by cases h) rfl pKM (Nat.le_of_ble_eq_true rfl) ?_
  refine pE_iload_n dX12_lies_0 rfl rfl ?_
  refine pE_iconst (v := nI 0) dX12_lies_1 rfl ?_
  refine pE_aload_n dX12_lies_2 rfl rfl ?_
  refine pE_getI dX12_lies_3 flX12_365 rfl (Or.inl rfl) (by first | assumption | rfl) ?_
  rw [l1]
  refine pE_iconst (v := nI 1) dX12_lies_6 rfl ?_
  refine pE_isub dX12_lies_7 ?_
  refine pE_callS (d' := 0) (as := [_, _, _]) dX12_lies_8 lkX12_368 (cwX12_isIn _ _) svX12_isIn rfl rfl (Nat.le_of_ble_eq_true rfl) (by decide) pKK ?_
  refine M_X12_isIn  (fun k1 k2 => ?_) (fun k => ?_)
  · obtain ⟨b, e, -, hb⟩ := in_m1 (by omega) k1 k2
    subst e
    refine pE_if_eq_f (tgt := 23) dX12_lies_11 (by decide) nI_1n0 ?_
    refine pE_aload_n dX12_lies_14 rfl rfl ?_
    refine pE_getR dX12_lies_15 flX12_97 rfl (by first | assumption | rfl) (by first | assumption | rfl) ?_
    refine pE_iload_n dX12_lies_18 rfl rfl ?_
    refine pE_ialoadN dX12_lies_19 (by first | assumption | rfl) (by first | assumption | omega) (by omega) ?_
    refine pE_goto (tgt := 25) dX12_lies_20 (by decide) ?_
    refine pE_iret dX12_lies_25 rfl rfl ?_
    first | exact h0 hno | (rw [l3 b hb]; exact h1 b hb rfl)
  · have hno := out_m1 (by omega) k
    refine pE_if_eq_t (tgt := 23) dX12_lies_11 (by decide) nI_0 ?_
    refine pE_bipush (v := -2) dX12_lies_23 rfl ?_
    refine pE_iret dX12_lies_25 rfl rfl ?_
    first | exact h0 hno | (rw [l3 b hb]; exact h1 b hb rfl)
set_option maxHeartbeats 4000000 in
set_option maxRecDepth 100000 in
theorem L_X11_stride {l : Launch} {X : pX} {t g : Nat} {I : pHI} {J : pHJ} {Q : pQ} {a nt : Nat} {H T : pN} {p : pP} (ht : isH t) (hH : cH t H I) (hr : rH H) (hS : cS 33 T I) (hrT : rS 999 H T) (hF : cF (t + 6) p I) (hw : wfp p 0) (ha : a < H 1) (hq : ∀ I1, sb I I1 → Q (some (.int (oI (strN (fun s => cntN p T s 0 nt (T 24)) (min (H 0) (T a)))))) I1 J (pR t g)) : ∀ (n j : Nat) (I1 : pHI) (v6 : Option Value), H 0 - j < n → j ≤ H 0 → sb I I1 → pE l X mX11_stride 3 pK 30 [some (.ref 0), some (.int (nI a)), some (.int (nI nt)), some (.int (oI (strN (fun s => cntN p T s 0 nt (T 24)) (min j (T a))))), some (.int (sfI (fun s => cntN p T s 0 nt (T 24)) (strN (fun s => cntN p T s 0 nt (T 24)) (min j (T a))))), some (.int (nI (j + 1))), v6] [] pK I1 J (pR t g) Q := by
  obtain ⟨fHFht0, fHFht1, fHFht2, fHFht3, fHFht4, fHFht5, fHFht6, fHFht7, fHFht8, fHFht9, fHFht10, fHFht11, fHFht12, fHFht13, fHFht14, fHFht15, fHFht16, fHFht17, fHFht18, fHFht19, fHFht20, fHFht21, fHFht22, fHFht23, fHFht24, fHFht25, fHFht26⟩ := HF t g ht
  intro n
  induction n with
  | zero => intro j I1 v6 hn hj; exact absurd hn (Nat.not_lt_zero _)
  | succ n ih =>
    intro j I1 v6 hn hj hv
    have hn8 := hr.2.1
    have hn20 := hr.1.2
    have hT40 := (hrT.2.2.2.2 a (by omega)).1
    have hH1 := hH.sx ht (Or.inl rfl) hv.sx
    have hS1 := hS.sb (Or.inl rfl) hv
    have hF1 := hF.sb (isF_c ht) hv
    have hcl : ∀ s, cntN p T s 0 nt (T 24) ≤ 999 := fun s => clp_le _ _
    cases e : strN (fun s => cntN p T s 0 nt (T 24)) (min j (T a)) with
    | none =>
      refine pE_iload dX11_stride_30 rfl ?_
      refine pE_aload_n dX11_stride_32 rfl rfl ?_
      refine pE_getR dX11_stride_33 flX11_29 rfl (by first | assumption | rfl) (by first | assumption | rfl) ?_
      refine pE_getI dX11_stride_36 flX11_210 rfl (Or.inl rfl) (by first | assumption | rfl) ?_
      rw [hH1.1]
      refine pE_icmp_gt (tgt := 118) dX11_stride_39 (by decide) (fun h39 => ?_) (fun h39 => ?_)
      · have g39 := nq_lt (by omega) (by omega) h39
        refine pE_iload_n dX11_stride_118 rfl rfl ?_
        refine pE_iret dX11_stride_119 rfl rfl ?_
        obtain rfl : j = H 0 := by omega
        rw [show (oI none : Int32) = oI (strN (fun s => cntN p T s 0 nt (T 24)) (min (H 0) (T a))) by rw [e]]
        exact hq _ hv
      · have g39 := nq_nlt (by omega) (by omega) h39
        refine pE_aload_n dX11_stride_42 rfl rfl ?_
        refine pE_getR dX11_stride_43 flX11_29 rfl (by first | assumption | rfl) (by first | assumption | rfl) ?_
        refine pE_iload dX11_stride_46 rfl ?_
        refine pE_iconst (v := nI 0) dX11_stride_48 rfl ?_
        refine pE_callV (d' := 0) (as := [_, _]) dX11_stride_49 lkX11_167 (cwX2_breathFor _ _) ivX2_breathFor ⟨_, rfl, rfl⟩ (by first | assumption | rfl) rfl rfl (Nat.le_of_ble_eq_true rfl) (by decide) pKK ?_
        refine M_X2_breathFor ht (by omega) (by omega) ?_
        rw [brN_0]
        refine pE_aload_n dX11_stride_52 rfl rfl ?_
        refine pE_getR dX11_stride_53 flX11_39 rfl (by first | assumption | rfl) (by first | assumption | rfl) ?_
        refine pE_getR dX11_stride_56 flX11_139 rfl (by first | assumption | rfl) (by first | assumption | rfl) ?_
        refine pE_iload_n dX11_stride_59 rfl rfl ?_
        refine pE_ialoadN dX11_stride_60 (by first | assumption | rfl) (by first | assumption | omega) (by omega) ?_
        rw [(hS1.2.2.2.2 a (by omega)).1]
        refine pE_icmp_gt (tgt := 112) dX11_stride_61 (by decide) (fun h61 => ?_) (fun h61 => ?_)
        · have g61 := nq_lt (by omega) (by omega) h61
          refine pE_iincN (c0 := 1) (lc' := [_, _, _, _, _, some (.int _), _]) dX11_stride_112 rfl rfl rfl rfl ?_
          refine pE_goto (tgt := 30) dX11_stride_115 (by decide) ?_
          first
          | (have hm : min (j + 1) (T a) = min j (T a) := by omega
             exact pE_cg (ih (j + 1) _ v6 (by omega) (by omega) hv) (by rw [hm, e]; first | done | rfl) rfl rfl rfl rfl)
          | (have hm : min (j + 1) (T a) = j + 1 := by omega
             have hm2 : min j (T a) = j := by omega
             rw [hm2] at e
             have e2 : strN (fun s => cntN p T s 0 nt (T 24)) (j + 1) = some (j + 1) := by simp only [strN, e]
             exact pE_cg (ih (j + 1) _ (some (.int (nI (cntN p T (j + 1) 0 nt (T 24))))) (by omega) (by omega) (hv.tr hb2)) (by rw [hm, e2]; first | done | rfl) rfl rfl rfl rfl)
        · have g61 := nq_nlt (by omega) (by omega) h61
          refine pE_aload_n dX11_stride_64 rfl rfl ?_
          refine pE_getR dX11_stride_65 flX11_29 rfl (by first | assumption | rfl) (by first | assumption | rfl) ?_
          refine pE_aload_n dX11_stride_68 rfl rfl ?_
          refine pE_getR dX11_stride_69 flX11_39 rfl (by first | assumption | rfl) (by first | assumption | rfl) ?_
          refine pE_iload dX11_stride_72 rfl ?_
          refine pE_iconst (v := nI 0) dX11_stride_74 rfl ?_
          refine pE_iload_n dX11_stride_75 rfl rfl ?_
          refine pE_aload_n dX11_stride_76 rfl rfl ?_
          refine pE_getR dX11_stride_77 flX11_39 rfl (by first | assumption | rfl) (by first | assumption | rfl) ?_
          refine pE_getI dX11_stride_80 flX11_160 rfl (Or.inl rfl) (by first | assumption | rfl) ?_
          rw [hS1.1]
          refine pE_callV (d' := 2) (as := [_, _, _, _, _]) dX11_stride_83 lkX11_163 (cwX2_countOf _ _) ivX2_countOf ⟨_, rfl, rfl⟩ (by first | assumption | rfl) rfl rfl (Nat.le_of_ble_eq_true rfl) (by decide) pKK ?_
          refine M_X2_countOf ht (Or.inl rfl) hS1 hF1 hw (fun I2 hb2 => ?_)
          refine pE_istore (lc' := [_, _, _, _, _, _, some (.int _)]) dX11_stride_86 (Nat.le_of_ble_eq_true rfl) rfl rfl ?_
          refine pE_iload_n dX11_stride_88 rfl rfl ?_
          refine pE_iconst (v := -1) dX11_stride_89 rfl ?_
          refine pE_icmp_eq (tgt := 105) dX11_stride_90 (by decide) (fun h90 => ?_) (fun h90 => ?_)
          · refine pE_iload dX11_stride_105 rfl ?_
            refine pE_istore_n (lc' := [_, _, _, some (.int _), _, _, _]) dX11_stride_107 rfl (Nat.le_of_ble_eq_true rfl) rfl rfl ?_
            refine pE_iload dX11_stride_108 rfl ?_
            refine pE_istore (lc' := [_, _, _, _, some (.int _), _, _]) dX11_stride_110 (Nat.le_of_ble_eq_true rfl) rfl rfl ?_
            refine pE_iincN (c0 := 1) (lc' := [_, _, _, _, _, some (.int _), _]) dX11_stride_112 rfl rfl rfl rfl ?_
            refine pE_goto (tgt := 30) dX11_stride_115 (by decide) ?_
            first
            | (have hm : min (j + 1) (T a) = min j (T a) := by omega
               exact pE_cg (ih (j + 1) _ v6 (by omega) (by omega) hv) (by rw [hm, e]; first | done | rfl) rfl rfl rfl rfl)
            | (have hm : min (j + 1) (T a) = j + 1 := by omega
               have hm2 : min j (T a) = j := by omega
               rw [hm2] at e
               have e2 : strN (fun s => cntN p T s 0 nt (T 24)) (j + 1) = some (j + 1) := by simp only [strN, e]
               exact pE_cg (ih (j + 1) _ (some (.int (nI (cntN p T (j + 1) 0 nt (T 24))))) (by omega) (by omega) (hv.tr hb2)) (by rw [hm, e2]; first | done | rfl) rfl rfl rfl rfl)
          · exact absurd rfl h90
    | some b =>
      have e9 := strN_some e
      rw [show oI (some b) = nI b from rfl, show sfI (fun s => cntN p T s 0 nt (T 24)) (some b) = nI (cntN p T b 0 nt (T 24)) from rfl]
      refine pE_iload dX11_stride_30 rfl ?_
      refine pE_aload_n dX11_stride_32 rfl rfl ?_
      refine pE_getR dX11_stride_33 flX11_29 rfl (by first | assumption | rfl) (by first | assumption | rfl) ?_
      refine pE_getI dX11_stride_36 flX11_210 rfl (Or.inl rfl) (by first | assumption | rfl) ?_
      rw [hH1.1]
      refine pE_icmp_gt (tgt := 118) dX11_stride_39 (by decide) (fun h39 => ?_) (fun h39 => ?_)
      · have g39 := nq_lt (by omega) (by omega) h39
        refine pE_iload_n dX11_stride_118 rfl rfl ?_
        refine pE_iret dX11_stride_119 rfl rfl ?_
        obtain rfl : j = H 0 := by omega
        rw [show (nI b : Int32) = oI (strN (fun s => cntN p T s 0 nt (T 24)) (min (H 0) (T a))) by rw [e]; rfl]
        exact hq _ hv
      · have g39 := nq_nlt (by omega) (by omega) h39
        refine pE_aload_n dX11_stride_42 rfl rfl ?_
        refine pE_getR dX11_stride_43 flX11_29 rfl (by first | assumption | rfl) (by first | assumption | rfl) ?_
        refine pE_iload dX11_stride_46 rfl ?_
        refine pE_iconst (v := nI 0) dX11_stride_48 rfl ?_
        refine pE_callV (d' := 0) (as := [_, _]) dX11_stride_49 lkX11_167 (cwX2_breathFor _ _) ivX2_breathFor ⟨_, rfl, rfl⟩ (by first | assumption | rfl) rfl rfl (Nat.le_of_ble_eq_true rfl) (by decide) pKK ?_
        refine M_X2_breathFor ht (by omega) (by omega) ?_
        rw [brN_0]
        refine pE_aload_n dX11_stride_52 rfl rfl ?_
        refine pE_getR dX11_stride_53 flX11_39 rfl (by first | assumption | rfl) (by first | assumption | rfl) ?_
        refine pE_getR dX11_stride_56 flX11_139 rfl (by first | assumption | rfl) (by first | assumption | rfl) ?_
        refine pE_iload_n dX11_stride_59 rfl rfl ?_
        refine pE_ialoadN dX11_stride_60 (by first | assumption | rfl) (by first | assumption | omega) (by omega) ?_
        rw [(hS1.2.2.2.2 a (by omega)).1]
        refine pE_icmp_gt (tgt := 112) dX11_stride_61 (by decide) (fun h61 => ?_) (fun h61 => ?_)
        · have g61 := nq_lt (by omega) (by omega) h61
          refine pE_iincN (c0 := 1) (lc' := [_, _, _, _, _, some (.int _), _]) dX11_stride_112 rfl rfl rfl rfl ?_
          refine pE_goto (tgt := 30) dX11_stride_115 (by decide) ?_
          first
          | (have hm : min (j + 1) (T a) = min j (T a) := by omega
             exact pE_cg (ih (j + 1) _ v6 (by omega) (by omega) hv) (by rw [hm, e]; first | done | rfl) rfl rfl rfl rfl)
          | (have hm : min (j + 1) (T a) = j + 1 := by omega
             have hm2 : min j (T a) = j := by omega
             rw [hm2] at e
             have e2 : strN (fun s => cntN p T s 0 nt (T 24)) (j + 1) = some (j + 1) := by simp only [strN, e]; rw [if_pos (by omega)]
             exact pE_cg (ih (j + 1) _ (some (.int (nI (cntN p T (j + 1) 0 nt (T 24))))) (by omega) (by omega) (hv.tr hb2)) (by rw [hm, e2]; first | done | rfl) rfl rfl rfl rfl)
          | (have hm : min (j + 1) (T a) = j + 1 := by omega
             have hm2 : min j (T a) = j := by omega
             rw [hm2] at e
             have e2 : strN (fun s => cntN p T s 0 nt (T 24)) (j + 1) = some b := by simp only [strN, e]; rw [if_neg (by omega)]
             exact pE_cg (ih (j + 1) _ (some (.int (nI (cntN p T (j + 1) 0 nt (T 24))))) (by omega) (by omega) (hv.tr hb2)) (by rw [hm, e2]; first | done | rfl) rfl rfl rfl rfl)
        · have g61 := nq_nlt (by omega) (by omega) h61
          refine pE_aload_n dX11_stride_64 rfl rfl ?_
          refine pE_getR dX11_stride_65 flX11_29 rfl (by first | assumption | rfl) (by first | assumption | rfl) ?_
          refine pE_aload_n dX11_stride_68 rfl rfl ?_
          refine pE_getR dX11_stride_69 flX11_39 rfl (by first | assumption | rfl) (by first | assumption | rfl) ?_
          refine pE_iload dX11_stride_72 rfl ?_
          refine pE_iconst (v := nI 0) dX11_stride_74 rfl ?_
          refine pE_iload_n dX11_stride_75 rfl rfl ?_
          refine pE_aload_n dX11_stride_76 rfl rfl ?_
          refine pE_getR dX11_stride_77 flX11_39 rfl (by first | assumption | rfl) (by first | assumption | rfl) ?_
          refine pE_getI dX11_stride_80 flX11_160 rfl (Or.inl rfl) (by first | assumption | rfl) ?_
          rw [hS1.1]
          refine pE_callV (d' := 2) (as := [_, _, _, _, _]) dX11_stride_83 lkX11_163 (cwX2_countOf _ _) ivX2_countOf ⟨_, rfl, rfl⟩ (by first | assumption | rfl) rfl rfl (Nat.le_of_ble_eq_true rfl) (by decide) pKK ?_
          refine M_X2_countOf ht (Or.inl rfl) hS1 hF1 hw (fun I2 hb2 => ?_)
          refine pE_istore (lc' := [_, _, _, _, _, _, some (.int _)]) dX11_stride_86 (Nat.le_of_ble_eq_true rfl) rfl rfl ?_
          refine pE_iload_n dX11_stride_88 rfl rfl ?_
          refine pE_iconst (v := -1) dX11_stride_89 rfl ?_
          refine pE_icmp_eq (tgt := 105) dX11_stride_90 (by decide) (fun h90 => ?_) (fun h90 => ?_)
          · exact absurd h90 (nI_m1n (by omega))
          · refine pE_iload dX11_stride_93 rfl ?_
            refine pE_iload_n dX11_stride_95 rfl rfl ?_
            refine pE_imulN dX11_stride_96 ?_
            refine pE_iload dX11_stride_97 rfl ?_
            refine pE_iload dX11_stride_99 rfl ?_
            refine pE_imulN dX11_stride_101 ?_
            have hp1 : cntN p T (j + 1) 0 nt (T 24) * b ≤ 999 * 40 := Nat.mul_le_mul (hcl _) (by omega)
            have hp2 : cntN p T b 0 nt (T 24) * (j + 1) ≤ 999 * 40 := Nat.mul_le_mul (hcl _) (by omega)
            refine pE_icmp_le (tgt := 112) dX11_stride_102 (by decide) (fun h102 => ?_) (fun h102 => ?_)
            · have g102 := nq_le (by omega) (by omega) h102
              refine pE_iincN (c0 := 1) (lc' := [_, _, _, _, _, some (.int _), _]) dX11_stride_112 rfl rfl rfl rfl ?_
              refine pE_goto (tgt := 30) dX11_stride_115 (by decide) ?_
              first
              | (have hm : min (j + 1) (T a) = min j (T a) := by omega
                 exact pE_cg (ih (j + 1) _ v6 (by omega) (by omega) hv) (by rw [hm, e]; first | done | rfl) rfl rfl rfl rfl)
              | (have hm : min (j + 1) (T a) = j + 1 := by omega
                 have hm2 : min j (T a) = j := by omega
                 rw [hm2] at e
                 have e2 : strN (fun s => cntN p T s 0 nt (T 24)) (j + 1) = some (j + 1) := by simp only [strN, e]; rw [if_pos (by omega)]
                 exact pE_cg (ih (j + 1) _ (some (.int (nI (cntN p T (j + 1) 0 nt (T 24))))) (by omega) (by omega) (hv.tr hb2)) (by rw [hm, e2]; first | done | rfl) rfl rfl rfl rfl)
              | (have hm : min (j + 1) (T a) = j + 1 := by omega
                 have hm2 : min j (T a) = j := by omega
                 rw [hm2] at e
                 have e2 : strN (fun s => cntN p T s 0 nt (T 24)) (j + 1) = some b := by simp only [strN, e]; rw [if_neg (by omega)]
                 exact pE_cg (ih (j + 1) _ (some (.int (nI (cntN p T (j + 1) 0 nt (T 24))))) (by omega) (by omega) (hv.tr hb2)) (by rw [hm, e2]; first | done | rfl) rfl rfl rfl rfl)
            · have g102 := nq_nle (by omega) (by omega) h102
              refine pE_iload dX11_stride_105 rfl ?_
              refine pE_istore_n (lc' := [_, _, _, some (.int _), _, _, _]) dX11_stride_107 rfl (Nat.le_of_ble_eq_true rfl) rfl rfl ?_
              refine pE_iload dX11_stride_108 rfl ?_
              refine pE_istore (lc' := [_, _, _, _, some (.int _), _, _]) dX11_stride_110 (Nat.le_of_ble_eq_true rfl) rfl rfl ?_
              refine pE_iincN (c0 := 1) (lc' := [_, _, _, _, _, some (.int _), _]) dX11_stride_112 rfl rfl rfl rfl ?_
              refine pE_goto (tgt := 30) dX11_stride_115 (by decide) ?_
              first
              | (have hm : min (j + 1) (T a) = min j (T a) := by omega
                 exact pE_cg (ih (j + 1) _ v6 (by omega) (by omega) hv) (by rw [hm, e]; first | done | rfl) rfl rfl rfl rfl)
              | (have hm : min (j + 1) (T a) = j + 1 := by omega
                 have hm2 : min j (T a) = j := by omega
                 rw [hm2] at e
                 have e2 : strN (fun s => cntN p T s 0 nt (T 24)) (j + 1) = some (j + 1) := by simp only [strN, e]; rw [if_pos (by omega)]
                 exact pE_cg (ih (j + 1) _ (some (.int (nI (cntN p T (j + 1) 0 nt (T 24))))) (by omega) (by omega) (hv.tr hb2)) (by rw [hm, e2]; first | done | rfl) rfl rfl rfl rfl)
              | (have hm : min (j + 1) (T a) = j + 1 := by omega
                 have hm2 : min j (T a) = j := by omega
                 rw [hm2] at e
                 have e2 : strN (fun s => cntN p T s 0 nt (T 24)) (j + 1) = some b := by simp only [strN, e]; rw [if_neg (by omega)]
                 exact pE_cg (ih (j + 1) _ (some (.int (nI (cntN p T (j + 1) 0 nt (T 24))))) (by omega) (by omega) (hv.tr hb2)) (by rw [hm, e2]; first | done | rfl) rfl rfl rfl rfl)
set_option maxHeartbeats 4000000 in
set_option maxRecDepth 100000 in
theorem M_X11_stride {l : Launch} {X : pX} {t g : Nat} {I : pHI} {J : pHJ} {Q : pQ} {x y : Int32} {H T : pN} {p : pP} (ht : isH t) (hH : cH t H I) (hr : rH H) (hS : cS 33 T I) (hrT : rS 999 H T) (hF : cF (t + 6) p I) (hw : wfp p 0) (h1 : ∀ a, a < H 1 → x = nI a → ∀ nt, nt ≤ 1 → y = nI nt → ∀ I1, sb I I1 → Q (some (.int (oI (strN (fun s => cntN p T s 0 nt (T 24)) (min (H 0) (T a)))))) I1 J (pR t g)) (h0 : ((∀ a, a < H 1 → x ≠ nI a) ∨ (∀ nt, nt ≤ 1 → y ≠ nI nt)) → Q (some (.int (-1))) I J (pR t g)) : pM l X yX11_stride mX11_stride 3 [.ref 0, .int x, .int y] pK pK I J (pR t g) Q := by
  obtain ⟨fHFht0, fHFht1, fHFht2, fHFht3, fHFht4, fHFht5, fHFht6, fHFht7, fHFht8, fHFht9, fHFht10, fHFht11, fHFht12, fHFht13, fHFht14, fHFht15, fHFht16, fHFht17, fHFht18, fHFht19, fHFht20, fHFht21, fHFht22, fHFht23, fHFht24, fHFht25, fHFht26⟩ := HF t g ht
  refine pM_of rfl (fun h => by cases h) rfl pKM (Nat.le_of_ble_eq_true rfl) ?_
  refine pE_aload_n dX11_stride_0 rfl rfl ?_
  refine pE_getR dX11_stride_1 flX11_29 rfl (by first | assumption | rfl) (by first | assumption | rfl) ?_
  refine pE_iload_n dX11_stride_4 rfl rfl ?_
  refine pE_callV (d' := 0) (as := [_]) dX11_stride_5 lkX11_119 (cwX2_hasTenant _ _) ivX2_hasTenant ⟨_, rfl, rfl⟩ (by first | assumption | rfl) rfl rfl (Nat.le_of_ble_eq_true rfl) (by decide) pKK ?_
  refine M_X2_hasTenant (H := H) ht hH.2.2.1 hr.2.1 (fun a ha e1 => ?_) (fun hno => ?_)
  · subst e1
    refine pE_if_eq_f (tgt := 20) dX11_stride_8 (by decide) nI_1n0 ?_
    refine pE_iload_n dX11_stride_11 rfl rfl ?_
    refine pE_if_eq (tgt := 22) dX11_stride_12 (by decide) (fun h12 => ?_) (fun h12 => ?_)
    · obtain ⟨nt, hnt, hnt1⟩ : ∃ nt, y = nI nt ∧ nt ≤ 1 := ⟨0, h12, by omega⟩
      subst hnt
      refine pE_iconst (v := -1) dX11_stride_22 rfl ?_
      refine pE_istore_n (lc' := [_, _, _, some (.int _), _, _, _]) dX11_stride_23 rfl (Nat.le_of_ble_eq_true rfl) rfl rfl ?_
      refine pE_iconst (v := nI 0) dX11_stride_24 rfl ?_
      refine pE_istore (lc' := [_, _, _, _, some (.int _), _, _]) dX11_stride_25 (Nat.le_of_ble_eq_true rfl) rfl rfl ?_
      refine pE_iconst (v := nI 1) dX11_stride_27 rfl ?_
      refine pE_istore (lc' := [_, _, _, _, _, some (.int _), _]) dX11_stride_28 (Nat.le_of_ble_eq_true rfl) rfl rfl ?_
      refine pE_cg (L_X11_stride (nt := nt) ht hH hr hS hrT hF hw ha (h1 a ha rfl nt hnt1 rfl) (H 0 + 1) 0 I _ (by omega) (by omega) sb.rf) (by
          rw [show min 0 (T a) = 0 by omega]; rfl) rfl rfl rfl rfl
    · refine pE_iload_n dX11_stride_15 rfl rfl ?_
      refine pE_iconst (v := nI 1) dX11_stride_16 rfl ?_
      refine pE_icmp_eq (tgt := 22) dX11_stride_17 (by decide) (fun h17 => ?_) (fun h17 => ?_)
      · obtain ⟨nt, hnt, hnt1⟩ : ∃ nt, y = nI nt ∧ nt ≤ 1 := ⟨1, h17, by omega⟩
        subst hnt
        refine pE_iconst (v := -1) dX11_stride_22 rfl ?_
        refine pE_istore_n (lc' := [_, _, _, some (.int _), _, _, _]) dX11_stride_23 rfl (Nat.le_of_ble_eq_true rfl) rfl rfl ?_
        refine pE_iconst (v := nI 0) dX11_stride_24 rfl ?_
        refine pE_istore (lc' := [_, _, _, _, some (.int _), _, _]) dX11_stride_25 (Nat.le_of_ble_eq_true rfl) rfl rfl ?_
        refine pE_iconst (v := nI 1) dX11_stride_27 rfl ?_
        refine pE_istore (lc' := [_, _, _, _, _, some (.int _), _]) dX11_stride_28 (Nat.le_of_ble_eq_true rfl) rfl rfl ?_
        refine pE_cg (L_X11_stride (nt := nt) ht hH hr hS hrT hF hw ha (h1 a ha rfl nt hnt1 rfl) (H 0 + 1) 0 I _ (by omega) (by omega) sb.rf) (by
            rw [show min 0 (T a) = 0 by omega]; rfl) rfl rfl rfl rfl
      · refine pE_iconst (v := -1) dX11_stride_20 rfl ?_
        refine pE_iret dX11_stride_21 rfl rfl ?_
        first | exact h0 (Or.inl hno) | exact h0 (Or.inr (fun nt hnt e => by rcases Nat.le_one_iff_eq_zero_or_eq_one.mp hnt with rfl | rfl; exact h12 e; exact h17 e))
  · refine pE_if_eq_t (tgt := 20) dX11_stride_8 (by decide) nI_0 ?_
    refine pE_iconst (v := -1) dX11_stride_20 rfl ?_
    refine pE_iret dX11_stride_21 rfl rfl ?_
    first | exact h0 (Or.inl hno) | exact h0 (Or.inr (fun nt hnt e => by rcases Nat.le_one_iff_eq_zero_or_eq_one.mp hnt with rfl | rfl; exact h12 e; exact h17 e))
set_option maxHeartbeats 4000000 in
set_option maxRecDepth 100000 in
theorem L_X12_stride {l : Launch} {X : pX} {t g : Nat} {I : pHI} {J : pHJ} {Q : pQ} {a nt : Nat} {H T : pN} {p pc : pP} (hH : mH H I) (hr : rH H) (hrT : rS 999 H T) (hS : mS 91 T I) (hF : mF 0 p I) (hw : p = [] ∨ wfp p 0) (hpc : fR 0 p pc) (ha : a < H 1) (hq : ∀ I1, sb I I1 → Q (some (.int (oI (strN (fun s => cntN pc T s 0 nt (T 24)) (min (H 0) (T a)))))) I1 J (pR t g)) : ∀ (n j : Nat) (I1 : pHI), min (H 0) (T a) - j < n → j ≤ min (H 0) (T a) → sb I I1 → pE l X mX12_stride 4 pK 28 [some (.ref 67), some (.int (nI a)), some (.int (nI nt)), some (.int (oI (strN (fun s => cntN pc T s 0 nt (T 24)) j))), some (.int (nI (j + 1)))] [] pK I1 J (pR t g) Q := by
  intro n
  induction n with
  | zero => intro j I1 hn hj; exact absurd hn (Nat.not_lt_zero _)
  | succ n ih =>
    intro j I1 hn hj hv
    have hn8 := hr.2.1
    have hn20 := hr.1.2
    have hT40 := (hrT.2.2.2.2 a (by omega)).1
    have hH1 := hH.sm hv.sm
    have hS1 := hS.sb (Or.inr rfl) hv
    have hF1 := hF.sb hv
    have hcl : ∀ s, cntN pc T s 0 nt (T 24) ≤ 999 := fun s => clp_le _ _
    cases e : strN (fun s => cntN pc T s 0 nt (T 24)) j with
    | none =>
      refine pE_iload dX12_stride_28 rfl ?_
      refine pE_aload_n dX12_stride_30 rfl rfl ?_
      refine pE_getI dX12_stride_31 flX12_82 rfl (Or.inl rfl) (by first | assumption | rfl) ?_
      rw [hH1.1]
      refine pE_icmp_gt (tgt := 84) dX12_stride_34 (by decide) (fun h34 => ?_) (fun h34 => ?_)
      · have g34 := nq_lt (by omega) (by omega) h34
        refine pE_iload_n dX12_stride_84 rfl rfl ?_
        refine pE_iret dX12_stride_85 rfl rfl ?_
        obtain rfl : j = min (H 0) (T a) := by omega
        rw [show (oI none : Int32) = oI (strN (fun s => cntN pc T s 0 nt (T 24)) (min (H 0) (T a))) by rw [e]]
        exact hq _ hv
      · have g34 := nq_nlt (by omega) (by omega) h34
        refine pE_iload dX12_stride_37 rfl ?_
        refine pE_aload_n dX12_stride_39 rfl rfl ?_
        refine pE_getR dX12_stride_40 flX12_88 rfl (by first | assumption | rfl) (by first | assumption | rfl) ?_
        refine pE_iload_n dX12_stride_43 rfl rfl ?_
        refine pE_ialoadN dX12_stride_44 (by first | assumption | rfl) (by first | assumption | omega) (by omega) ?_
        rw [hS1 a (by omega)]
        refine pE_icmp_gt (tgt := 84) dX12_stride_45 (by decide) (fun h45 => ?_) (fun h45 => ?_)
        · have g45 := nq_lt (by omega) (by omega) h45
          refine pE_iload_n dX12_stride_84 rfl rfl ?_
          refine pE_iret dX12_stride_85 rfl rfl ?_
          obtain rfl : j = min (H 0) (T a) := by omega
          rw [show (oI none : Int32) = oI (strN (fun s => cntN pc T s 0 nt (T 24)) (min (H 0) (T a))) by rw [e]]
          exact hq _ hv
        · have g45 := nq_nlt (by omega) (by omega) h45
          refine pE_iload_n dX12_stride_48 rfl rfl ?_
          refine pE_if_lt (tgt := 75) dX12_stride_49 (by decide) (fun h49 => ?_) (fun h49 => ?_)
          · refine pE_iload dX12_stride_75 rfl ?_
            refine pE_istore_n (lc' := [_, _, _, some (.int _), _]) dX12_stride_77 rfl (Nat.le_of_ble_eq_true rfl) rfl rfl ?_
            refine pE_iincN (c0 := 1) (lc' := [_, _, _, _, some (.int _)]) dX12_stride_78 rfl rfl rfl rfl ?_
            refine pE_goto (tgt := 28) dX12_stride_81 (by decide) ?_
            refine pE_cg (ih (j + 1) _ (by omega) (by omega) hv) (by
                have e2 : strN (fun s => cntN pc T s 0 nt (T 24)) (j + 1) = some (j + 1) := by simp only [strN, e]
                rw [e2]; rfl) rfl rfl rfl rfl
          · exact absurd m1_lt0 h49
    | some b =>
      have e9 := strN_some e
      rw [show oI (some b) = nI b from rfl]
      refine pE_iload dX12_stride_28 rfl ?_
      refine pE_aload_n dX12_stride_30 rfl rfl ?_
      refine pE_getI dX12_stride_31 flX12_82 rfl (Or.inl rfl) (by first | assumption | rfl) ?_
      rw [hH1.1]
      refine pE_icmp_gt (tgt := 84) dX12_stride_34 (by decide) (fun h34 => ?_) (fun h34 => ?_)
      · have g34 := nq_lt (by omega) (by omega) h34
        refine pE_iload_n dX12_stride_84 rfl rfl ?_
        refine pE_iret dX12_stride_85 rfl rfl ?_
        obtain rfl : j = min (H 0) (T a) := by omega
        rw [show (nI b : Int32) = oI (strN (fun s => cntN pc T s 0 nt (T 24)) (min (H 0) (T a))) by rw [e]; rfl]
        exact hq _ hv
      · have g34 := nq_nlt (by omega) (by omega) h34
        refine pE_iload dX12_stride_37 rfl ?_
        refine pE_aload_n dX12_stride_39 rfl rfl ?_
        refine pE_getR dX12_stride_40 flX12_88 rfl (by first | assumption | rfl) (by first | assumption | rfl) ?_
        refine pE_iload_n dX12_stride_43 rfl rfl ?_
        refine pE_ialoadN dX12_stride_44 (by first | assumption | rfl) (by first | assumption | omega) (by omega) ?_
        rw [hS1 a (by omega)]
        refine pE_icmp_gt (tgt := 84) dX12_stride_45 (by decide) (fun h45 => ?_) (fun h45 => ?_)
        · have g45 := nq_lt (by omega) (by omega) h45
          refine pE_iload_n dX12_stride_84 rfl rfl ?_
          refine pE_iret dX12_stride_85 rfl rfl ?_
          obtain rfl : j = min (H 0) (T a) := by omega
          rw [show (nI b : Int32) = oI (strN (fun s => cntN pc T s 0 nt (T 24)) (min (H 0) (T a))) by rw [e]; rfl]
          exact hq _ hv
        · have g45 := nq_nlt (by omega) (by omega) h45
          refine pE_iload_n dX12_stride_48 rfl rfl ?_
          refine pE_if_lt (tgt := 75) dX12_stride_49 (by decide) (fun h49 => ?_) (fun h49 => ?_)
          · exact absurd h49 (nI_pos (by omega))
          · refine pE_aload_n dX12_stride_52 rfl rfl ?_
            refine pE_iload dX12_stride_53 rfl ?_
            refine pE_iconst (v := -1) dX12_stride_55 rfl ?_
            refine pE_iload_n dX12_stride_56 rfl rfl ?_
            refine pE_callV (d' := 3) (as := [_, _, _]) dX12_stride_57 lkX12_404 (cwX12_countOf _ _) ivX12_countOf ⟨_, rfl, rfl⟩ (by first | assumption | rfl) rfl rfl (Nat.le_of_ble_eq_true rfl) (by decide) pKK ?_
            refine M_X12_countOf_0 hF1 hw hS1 (fun I2 hb2 => ?_)
            rw [fr_cnt hpc]
            refine pE_iload_n dX12_stride_60 rfl rfl ?_
            refine pE_imulN dX12_stride_61 ?_
            refine pE_aload_n dX12_stride_62 rfl rfl ?_
            refine pE_iload_n dX12_stride_63 rfl rfl ?_
            refine pE_iconst (v := -1) dX12_stride_64 rfl ?_
            refine pE_iload_n dX12_stride_65 rfl rfl ?_
            refine pE_callV (d' := 3) (as := [_, _, _]) dX12_stride_66 lkX12_404 (cwX12_countOf _ _) ivX12_countOf ⟨_, rfl, rfl⟩ (by first | assumption | rfl) rfl rfl (Nat.le_of_ble_eq_true rfl) (by decide) pKK ?_
            refine M_X12_countOf_0 (hF1.sb hb2) hw (hS1.sb (Or.inr rfl) hb2) (fun I3 hb3 => ?_)
            rw [fr_cnt hpc]
            refine pE_iload dX12_stride_69 rfl ?_
            refine pE_imulN dX12_stride_71 ?_
            have hp1 : cntN pc T (j + 1) 0 nt (T 24) * b ≤ 999 * 40 := Nat.mul_le_mul (hcl _) (by omega)
            have hp2 : cntN pc T b 0 nt (T 24) * (j + 1) ≤ 999 * 40 := Nat.mul_le_mul (hcl _) (by omega)
            refine pE_icmp_le (tgt := 78) dX12_stride_72 (by decide) (fun h72 => ?_) (fun h72 => ?_)
            · have g72 := nq_le (by omega) (by omega) h72
              refine pE_iincN (c0 := 1) (lc' := [_, _, _, _, some (.int _)]) dX12_stride_78 rfl rfl rfl rfl ?_
              refine pE_goto (tgt := 28) dX12_stride_81 (by decide) ?_
              refine pE_cg (ih (j + 1) _ (by omega) (by omega) ((hv.tr hb2).tr hb3)) (by
                  first
                  | (have e2 : strN (fun s => cntN pc T s 0 nt (T 24)) (j + 1) = some (j + 1) := by simp only [strN, e]; rw [if_pos (by omega)]
                     rw [e2]; rfl)
                  | (have e2 : strN (fun s => cntN pc T s 0 nt (T 24)) (j + 1) = some b := by simp only [strN, e]; rw [if_neg (by omega)]
                     rw [e2]; rfl)) rfl rfl rfl rfl
            · have g72 := nq_nle (by omega) (by omega) h72
              refine pE_iload dX12_stride_75 rfl ?_
              refine pE_istore_n (lc' := [_, _, _, some (.int _), _]) dX12_stride_77 rfl (Nat.le_of_ble_eq_true rfl) rfl rfl ?_
              refine pE_iincN (c0 := 1) (lc' := [_, _, _, _, some (.int _)]) dX12_stride_78 rfl rfl rfl rfl ?_
              refine pE_goto (tgt := 28) dX12_stride_81 (by decide) ?_
              refine pE_cg (ih (j + 1) _ (by omega) (by omega) ((hv.tr hb2).tr hb3)) (by
                  first
                  | (have e2 : strN (fun s => cntN pc T s 0 nt (T 24)) (j + 1) = some (j + 1) := by simp only [strN, e]; rw [if_pos (by omega)]
                     rw [e2]; rfl)
                  | (have e2 : strN (fun s => cntN pc T s 0 nt (T 24)) (j + 1) = some b := by simp only [strN, e]; rw [if_neg (by omega)]
                     rw [e2]; rfl)) rfl rfl rfl rfl
set_option maxHeartbeats 4000000 in
set_option maxRecDepth 100000 in
theorem M_X12_stride {l : Launch} {X : pX} {t g : Nat} {I : pHI} {J : pHJ} {Q : pQ} {x y : Int32} {H T : pN} {p pc : pP} (hH : mH H I) (hr : rH H) (hrT : rS 999 H T) (hS : mS 90 T I) (hF : mF 0 p I) (hw : p = [] ∨ wfp p 0) (hpc : fR 0 p pc) (h1 : ∀ a, a < H 1 → x = nI a → ∀ nt, nt ≤ 1 → y = nI nt → ∀ I1, sm I I1 → Q (some (.int (oI (strN (fun s => cntN pc T s 0 nt (T 24)) (min (H 0) (T a)))))) I1 J (pR t g)) (h0 : ((∀ a, a < H 1 → x ≠ nI a) ∨ (∀ nt, nt ≤ 1 → y ≠ nI nt)) → Q (some (.int (-1))) I J (pR t g)) : pM l X yX12_stride mX12_stride 4 [.ref 67, .int x, .int y] pK pK I J (pR t g) Q := by
  refine pM_of rfl (fun h => by cases h) rfl pKM (Nat.le_of_ble_eq_true rfl) ?_
  refine pE_aload_n dX12_stride_0 rfl rfl ?_
  refine pE_iload_n dX12_stride_1 rfl rfl ?_
  refine pE_callV (d' := 1) (as := [_]) dX12_stride_2 lkX12_382 (cwX12_isTenant _ _) ivX12_isTenant ⟨_, rfl, rfl⟩ (by first | assumption | rfl) rfl rfl (Nat.le_of_ble_eq_true rfl) (by decide) pKK ?_
  refine M_X12_isTenant (H := H) hH.2.1 hr.2.1 (fun a ha e1 => ?_) (fun hno => ?_)
  · subst e1
    refine pE_if_eq_f (tgt := 17) dX12_stride_5 (by decide) nI_1n0 ?_
    refine pE_iload_n dX12_stride_8 rfl rfl ?_
    refine pE_iconst (v := nI 0) dX12_stride_9 rfl ?_
    refine pE_iconst (v := nI 1) dX12_stride_10 rfl ?_
    refine pE_callS (d' := 0) (as := [_, _, _]) dX12_stride_11 lkX12_368 (cwX12_isIn _ _) svX12_isIn rfl rfl (Nat.le_of_ble_eq_true rfl) (by decide) pKK ?_
    refine M_X12_isIn  (fun k1 k2 => ?_) (fun k => ?_)
    · obtain ⟨nt, e, -, hnt1⟩ := in_rng (by omega) (by omega) k1 k2
      subst e
      refine pE_if_ne_t (tgt := 19) dX12_stride_14 (by decide) nI_1n0 ?_
      refine pE_aload_n dX12_stride_19 rfl rfl ?_
      refine pE_callV (d' := 0) (as := []) dX12_stride_20 lkX12_394 (cwX12_load _ _) ivX12_load ⟨_, rfl, rfl⟩ (by first | assumption | rfl) rfl rfl (Nat.le_of_ble_eq_true rfl) (by decide) pKK ?_
      refine M_X12_load ?_
      refine pE_iconst (v := -1) dX12_stride_23 rfl ?_
      refine pE_istore_n (lc' := [_, _, _, some (.int _), _]) dX12_stride_24 rfl (Nat.le_of_ble_eq_true rfl) rfl rfl ?_
      refine pE_iconst (v := nI 1) dX12_stride_25 rfl ?_
      refine pE_istore (lc' := [_, _, _, _, some (.int _)]) dX12_stride_26 (Nat.le_of_ble_eq_true rfl) rfl rfl ?_
      exact L_X12_stride (nt := nt) (hH.sm sm.load) hr hrT hS.load (hF.sm sm.load) hw hpc ha (fun I1 hb => h1 a ha rfl nt hnt1 rfl I1 (sm.load.tr hb.sm)) (min (H 0) (T a) + 1) 0 _ (by omega) (by omega) sb.rf
    · have hno := out_rng (by omega) (by omega) k
      refine pE_if_ne_f (tgt := 19) dX12_stride_14 (by decide) nI_0 ?_
      refine pE_iconst (v := -1) dX12_stride_17 rfl ?_
      refine pE_iret dX12_stride_18 rfl rfl ?_
      first | exact h0 (Or.inl hno) | exact h0 (Or.inr (fun nt hnt e => hno nt (Nat.zero_le _) hnt e))
  · refine pE_if_eq_t (tgt := 17) dX12_stride_5 (by decide) nI_0 ?_
    refine pE_iconst (v := -1) dX12_stride_17 rfl ?_
    refine pE_iret dX12_stride_18 rfl rfl ?_
    first | exact h0 (Or.inl hno) | exact h0 (Or.inr (fun nt hnt e => hno nt (Nat.zero_le _) hnt e))
