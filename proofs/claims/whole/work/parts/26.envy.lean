set_option maxHeartbeats 4000000 in
set_option maxRecDepth 100000 in
theorem M_X2_isEnvious {l : Launch} {X : pX} {t g : Nat} {I : pHI} {J : pHJ} {Q : pQ} {o a b s s2 : Nat} {H : pN} (ho : isH o) (hH : cH o H I) (hr : rH H) (ha : a < 8) (hb : b < 8) (hs : s ≤ 20) (hs2 : s2 ≤ 20) (h1 : s2 ≤ s ∧ H (32 + b) < H (32 + a) → Q (some (.int (nI 1))) I J (pR t g)) (h0 : ¬ (s2 ≤ s ∧ H (32 + b) < H (32 + a)) → Q (some (.int (nI 0))) I J (pR t g)) : pM l X yX2_isEnvious mX2_isEnvious 0 [.ref o, .int (nI a), .int (nI s), .int (nI b), .int (nI s2)] pK pK I J (pR t g) Q := by
  obtain ⟨fHFho0, fHFho1, fHFho2, fHFho3, fHFho4, fHFho5, fHFho6, fHFho7, fHFho8, fHFho9, fHFho10, fHFho11, fHFho12, fHFho13, fHFho14, fHFho15, fHFho16, fHFho17, fHFho18, fHFho19, fHFho20, fHFho21, fHFho22, fHFho23, fHFho24, fHFho25, fHFho26⟩ := HF t g ho
  have q1 := (hr.2.2.2.2 a ha).2.2.2.1
  have q2 := (hr.2.2.2.2 b hb).2.2.2.1
  refine pM_of rfl (fun h => by cases h) rfl pKM (Nat.le_of_ble_eq_true rfl) ?_
  refine pE_iload dX2_isEnvious_0 rfl ?_
  refine pE_iload_n dX2_isEnvious_2 rfl rfl ?_
  refine pE_icmp_gt (tgt := 25) dX2_isEnvious_3 (by decide) (fun h3 => ?_) (fun h3 => ?_)
  · have g3 := nq_lt (by omega) (by omega) h3
    refine pE_iconst (v := nI 0) dX2_isEnvious_25 rfl ?_
    refine pE_zret dX2_isEnvious_26 rfl (by first | exact Or.inl nI_0 | exact Or.inr nI_1' | assumption) rfl ?_
    first | exact h1 (by omega) | exact h0 (by omega)
  · have g3 := nq_nlt (by omega) (by omega) h3
    refine pE_aload_n dX2_isEnvious_6 rfl rfl ?_
    refine pE_getR dX2_isEnvious_7 flX2_31 rfl (by first | assumption | rfl) (by first | assumption | rfl) ?_
    refine pE_iload_n dX2_isEnvious_10 rfl rfl ?_
    refine pE_ialoadN dX2_isEnvious_11 (by first | assumption | rfl) (by first | assumption | omega) (by omega) ?_
    rw [(hH.2.2.2.2.2 b hb).2.2.2.1]
    refine pE_aload_n dX2_isEnvious_12 rfl rfl ?_
    refine pE_getR dX2_isEnvious_13 flX2_31 rfl (by first | assumption | rfl) (by first | assumption | rfl) ?_
    refine pE_iload_n dX2_isEnvious_16 rfl rfl ?_
    refine pE_ialoadN dX2_isEnvious_17 (by first | assumption | rfl) (by first | assumption | omega) (by omega) ?_
    rw [(hH.2.2.2.2.2 a ha).2.2.2.1]
    refine pE_icmp_ge (tgt := 25) dX2_isEnvious_18 (by decide) (fun h18 => ?_) (fun h18 => ?_)
    · have g18 := nq_le (by omega) (by omega) h18
      refine pE_iconst (v := nI 0) dX2_isEnvious_25 rfl ?_
      refine pE_zret dX2_isEnvious_26 rfl (by first | exact Or.inl nI_0 | exact Or.inr nI_1' | assumption) rfl ?_
      first | exact h1 (by omega) | exact h0 (by omega)
    · have g18 := nq_nle (by omega) (by omega) h18
      refine pE_iconst (v := nI 1) dX2_isEnvious_21 rfl ?_
      refine pE_goto (tgt := 26) dX2_isEnvious_22 (by decide) ?_
      refine pE_zret dX2_isEnvious_26 rfl (by first | exact Or.inl nI_0 | exact Or.inr nI_1' | assumption) rfl ?_
      first | exact h1 (by omega) | exact h0 (by omega)
set_option maxHeartbeats 4000000 in
set_option maxRecDepth 100000 in
theorem M_X2_storeyIfSwapped_0 {l : Launch} {X : pX} {t g : Nat} {I : pHI} {J : pHJ} {Q : pQ} {o i : Nat} {H : pN} (ho : isH o) (hH : cH o H I) (hr : rH H) (hi : i < H 1) (hq : Q (some (.int (nI (H (8 + i))))) I J (pR t g)) : pM l X yX2_storeyIfSwapped mX2_storeyIfSwapped 1 [.ref o, .int (nI i), .int (-1), .int (-1)] pK pK I J (pR t g) Q := by
  obtain ⟨fHFho0, fHFho1, fHFho2, fHFho3, fHFho4, fHFho5, fHFho6, fHFho7, fHFho8, fHFho9, fHFho10, fHFho11, fHFho12, fHFho13, fHFho14, fHFho15, fHFho16, fHFho17, fHFho18, fHFho19, fHFho20, fHFho21, fHFho22, fHFho23, fHFho24, fHFho25, fHFho26⟩ := HF t g ho
  refine pM_of rfl (fun h => by cases h) rfl pKM (Nat.le_of_ble_eq_true rfl) ?_
  have hn8 := hr.2.1
  refine pE_iload_n dX2_storeyIfSwapped_0 rfl rfl ?_
  refine pE_iload_n dX2_storeyIfSwapped_1 rfl rfl ?_
  refine pE_icmp_ne (tgt := 20) dX2_storeyIfSwapped_2 (by decide) (fun h2 => ?_) (fun h2 => ?_)
  · refine pE_iload_n dX2_storeyIfSwapped_20 rfl rfl ?_
    refine pE_iload_n dX2_storeyIfSwapped_21 rfl rfl ?_
    refine pE_icmp_ne (tgt := 40) dX2_storeyIfSwapped_22 (by decide) (fun h22 => ?_) (fun h22 => ?_)
    · refine pE_aload_n dX2_storeyIfSwapped_40 rfl rfl ?_
      refine pE_getR dX2_storeyIfSwapped_41 flX2_21 rfl (by first | assumption | rfl) (by first | assumption | rfl) ?_
      refine pE_iload_n dX2_storeyIfSwapped_44 rfl rfl ?_
      refine pE_ialoadN dX2_storeyIfSwapped_45 (by first | assumption | rfl) (by first | assumption | omega) (by omega) ?_
      rw [(hH.2.2.2.2.2 i (by omega)).1]
      refine pE_iret dX2_storeyIfSwapped_46 rfl rfl ?_
      exact hq
    · exact absurd h22 (nI_m1n (by omega))
  · exact absurd h2 (nI_m1n (by omega))
set_option maxHeartbeats 4000000 in
set_option maxRecDepth 100000 in
theorem M_X2_storeyIfSwapped_c {l : Launch} {X : pX} {t g : Nat} {I : pHI} {J : pHJ} {Q : pQ} {o i a b : Nat} {H : pN} (ho : isH o) (hH : cH o H I) (hr : rH H) (hi : i < H 1) (ha : a < H 1) (hb : b < H 1) (hq : Q (some (.int (nI (swH (fun k => H (8 + k)) a b i)))) I J (pR t g)) : pM l X yX2_storeyIfSwapped mX2_storeyIfSwapped 1 [.ref o, .int (nI i), .int (nI a), .int (nI b)] pK pK I J (pR t g) Q := by
  obtain ⟨fHFho0, fHFho1, fHFho2, fHFho3, fHFho4, fHFho5, fHFho6, fHFho7, fHFho8, fHFho9, fHFho10, fHFho11, fHFho12, fHFho13, fHFho14, fHFho15, fHFho16, fHFho17, fHFho18, fHFho19, fHFho20, fHFho21, fHFho22, fHFho23, fHFho24, fHFho25, fHFho26⟩ := HF t g ho
  refine pM_of rfl (fun h => by cases h) rfl pKM (Nat.le_of_ble_eq_true rfl) ?_
  have hn8 := hr.2.1
  refine pE_iload_n dX2_storeyIfSwapped_0 rfl rfl ?_
  refine pE_iload_n dX2_storeyIfSwapped_1 rfl rfl ?_
  refine pE_icmp_ne (tgt := 20) dX2_storeyIfSwapped_2 (by decide) (fun h2 => ?_) (fun h2 => ?_)
  · have g2 := nq_ne (by omega) (by omega) h2
    refine pE_iload_n dX2_storeyIfSwapped_20 rfl rfl ?_
    refine pE_iload_n dX2_storeyIfSwapped_21 rfl rfl ?_
    refine pE_icmp_ne (tgt := 40) dX2_storeyIfSwapped_22 (by decide) (fun h22 => ?_) (fun h22 => ?_)
    · have g22 := nq_ne (by omega) (by omega) h22
      refine pE_aload_n dX2_storeyIfSwapped_40 rfl rfl ?_
      refine pE_getR dX2_storeyIfSwapped_41 flX2_21 rfl (by first | assumption | rfl) (by first | assumption | rfl) ?_
      refine pE_iload_n dX2_storeyIfSwapped_44 rfl rfl ?_
      refine pE_ialoadN dX2_storeyIfSwapped_45 (by first | assumption | rfl) (by first | assumption | omega) (by omega) ?_
      rw [(hH.2.2.2.2.2 i (by omega)).1]
      refine pE_iret dX2_storeyIfSwapped_46 rfl rfl ?_
      refine cgQ ?_ hq
      simp only [swH]
      first | (rw [if_pos (by omega)]; done) | (rw [if_neg (by omega), if_pos (by omega)]; done) | (rw [if_neg (by omega), if_neg (by omega)]; done)
    · have g22 := nq_eq (by omega) (by omega) h22
      refine pE_aload_n dX2_storeyIfSwapped_25 rfl rfl ?_
      refine pE_iload_n dX2_storeyIfSwapped_26 rfl rfl ?_
      refine pE_callV (d' := 0) (as := [_]) dX2_storeyIfSwapped_27 lkX2_87 (cwX2_hasTenant _ _) ivX2_hasTenant ⟨_, rfl, rfl⟩ (by first | assumption | rfl) rfl rfl (Nat.le_of_ble_eq_true rfl) (by decide) pKK ?_
      refine M_X2_hasTenant (H := H) ho hH.2.2.1 hn8 (fun j hj e => ?_) (fun hno => ?_)
      · have e2 := nq_eq (by omega) (by omega) e
        subst e2
        refine pE_if_eq_f (tgt := 40) dX2_storeyIfSwapped_30 (by decide) nI_1n0 ?_
        refine pE_aload_n dX2_storeyIfSwapped_33 rfl rfl ?_
        refine pE_getR dX2_storeyIfSwapped_34 flX2_21 rfl (by first | assumption | rfl) (by first | assumption | rfl) ?_
        refine pE_iload_n dX2_storeyIfSwapped_37 rfl rfl ?_
        refine pE_ialoadN dX2_storeyIfSwapped_38 (by first | assumption | rfl) (by first | assumption | omega) (by omega) ?_
        rw [(hH.2.2.2.2.2 a (by omega)).1]
        refine pE_iret dX2_storeyIfSwapped_39 rfl rfl ?_
        refine cgQ ?_ hq
        simp only [swH]
        first | (rw [if_pos (by omega)]; done) | (rw [if_neg (by omega), if_pos (by omega)]; done) | (rw [if_neg (by omega), if_neg (by omega)]; done)
      · exact absurd rfl (hno a ha)
  · have g2 := nq_eq (by omega) (by omega) h2
    refine pE_aload_n dX2_storeyIfSwapped_5 rfl rfl ?_
    refine pE_iload_n dX2_storeyIfSwapped_6 rfl rfl ?_
    refine pE_callV (d' := 0) (as := [_]) dX2_storeyIfSwapped_7 lkX2_87 (cwX2_hasTenant _ _) ivX2_hasTenant ⟨_, rfl, rfl⟩ (by first | assumption | rfl) rfl rfl (Nat.le_of_ble_eq_true rfl) (by decide) pKK ?_
    refine M_X2_hasTenant (H := H) ho hH.2.2.1 hn8 (fun j hj e => ?_) (fun hno => ?_)
    · have e2 := nq_eq (by omega) (by omega) e
      subst e2
      refine pE_if_eq_f (tgt := 20) dX2_storeyIfSwapped_10 (by decide) nI_1n0 ?_
      refine pE_aload_n dX2_storeyIfSwapped_13 rfl rfl ?_
      refine pE_getR dX2_storeyIfSwapped_14 flX2_21 rfl (by first | assumption | rfl) (by first | assumption | rfl) ?_
      refine pE_iload_n dX2_storeyIfSwapped_17 rfl rfl ?_
      refine pE_ialoadN dX2_storeyIfSwapped_18 (by first | assumption | rfl) (by first | assumption | omega) (by omega) ?_
      rw [(hH.2.2.2.2.2 b (by omega)).1]
      refine pE_iret dX2_storeyIfSwapped_19 rfl rfl ?_
      refine cgQ ?_ hq
      simp only [swH]
      first | (rw [if_pos (by omega)]; done) | (rw [if_neg (by omega), if_pos (by omega)]; done) | (rw [if_neg (by omega), if_neg (by omega)]; done)
    · exact absurd rfl (hno b hb)
set_option maxHeartbeats 4000000 in
set_option maxRecDepth 100000 in
theorem L_X2_enviesIn {l : Launch} {X : pX} {t g : Nat} {I : pHI} {J : pHJ} {Q : pQ} {o a c : Nat} {x y : Int32} {H h : pN} (ho : isH o) (hH : cH o H I) (hr : rH H) (hst : ∀ {Q2 : pQ} (i : Nat), i < H 1 → Q2 (some (.int (nI (h i)))) I J (pR t g) → pM l X yX2_storeyIfSwapped mX2_storeyIfSwapped 1 [.ref o, .int (nI i), .int x, .int y] pK pK I J (pR t g) Q2) (hh : ∀ i, i < H 1 → h i ≤ 20) (ha : a < H 1) (hc : c ≤ 100) (hk : pE l X mX2_enviesIfSwapped 2 pK 62 [some (.ref o), some (.int x), some (.int y), some (.int (nI (c + cntP (envB H h a) (H 1)))), some (.int (nI a)), some (.int (nI (H 1)))] [] pK I J (pR t g) Q) : ∀ (n j : Nat), H 1 - j < n → j ≤ H 1 → pE l X mX2_enviesIfSwapped 2 pK 17 [some (.ref o), some (.int x), some (.int y), some (.int (nI (c + cntP (envB H h a) j))), some (.int (nI a)), some (.int (nI j))] [] pK I J (pR t g) Q := by
  obtain ⟨fHFho0, fHFho1, fHFho2, fHFho3, fHFho4, fHFho5, fHFho6, fHFho7, fHFho8, fHFho9, fHFho10, fHFho11, fHFho12, fHFho13, fHFho14, fHFho15, fHFho16, fHFho17, fHFho18, fHFho19, fHFho20, fHFho21, fHFho22, fHFho23, fHFho24, fHFho25, fHFho26⟩ := HF t g ho
  intro n
  induction n with
  | zero => intro j hn hj; exact absurd hn (Nat.not_lt_zero _)
  | succ n ih =>
    intro j hn hj
    have hn8 := hr.2.1
    have hn20 := hr.1.2
    have hcn := cntP_le (envB H h a) j
    refine pE_iload dX2_enviesIfSwapped_17 rfl ?_
    refine pE_aload_n dX2_enviesIfSwapped_19 rfl rfl ?_
    refine pE_getI dX2_enviesIfSwapped_20 flX2_18 rfl (Or.inl rfl) (by first | assumption | rfl) ?_
    rw [hH.2.2.1]
    refine pE_icmp_ge (tgt := 62) dX2_enviesIfSwapped_23 (by decide) (fun h23 => ?_) (fun h23 => ?_)
    · have g23 := nq_le (by omega) (by omega) h23
      obtain rfl : j = H 1 := by omega
      exact hk
    · have g23 := nq_nle (by omega) (by omega) h23
      refine pE_aload_n dX2_enviesIfSwapped_26 rfl rfl ?_
      refine pE_iload dX2_enviesIfSwapped_27 rfl ?_
      refine pE_aload_n dX2_enviesIfSwapped_29 rfl rfl ?_
      refine pE_iload dX2_enviesIfSwapped_30 rfl ?_
      refine pE_iload_n dX2_enviesIfSwapped_32 rfl rfl ?_
      refine pE_iload_n dX2_enviesIfSwapped_33 rfl rfl ?_
      refine pE_callV (d' := 1) (as := [_, _, _]) dX2_enviesIfSwapped_34 lkX2_136 (cwX2_storeyIfSwapped _ _) ivX2_storeyIfSwapped ⟨_, rfl, rfl⟩ (by first | assumption | rfl) rfl rfl (Nat.le_of_ble_eq_true rfl) (by decide) pKK ?_
      refine hst a ha ?_
      refine pE_iload dX2_enviesIfSwapped_37 rfl ?_
      refine pE_aload_n dX2_enviesIfSwapped_39 rfl rfl ?_
      refine pE_iload dX2_enviesIfSwapped_40 rfl ?_
      refine pE_iload_n dX2_enviesIfSwapped_42 rfl rfl ?_
      refine pE_iload_n dX2_enviesIfSwapped_43 rfl rfl ?_
      refine pE_callV (d' := 1) (as := [_, _, _]) dX2_enviesIfSwapped_44 lkX2_136 (cwX2_storeyIfSwapped _ _) ivX2_storeyIfSwapped ⟨_, rfl, rfl⟩ (by first | assumption | rfl) rfl rfl (Nat.le_of_ble_eq_true rfl) (by decide) pKK ?_
      refine hst j (by omega) ?_
      refine pE_callV (d' := 0) (as := [_, _, _, _]) dX2_enviesIfSwapped_47 lkX2_140 (cwX2_isEnvious _ _) ivX2_isEnvious ⟨_, rfl, rfl⟩ (by first | assumption | rfl) rfl rfl (Nat.le_of_ble_eq_true rfl) (by decide) pKK ?_
      refine M_X2_isEnvious ho hH hr (by omega) (by omega) (hh a ha) (hh j (by omega)) (fun hb1 => ?_) (fun hb0 => ?_)
      · refine pE_if_eq_f (tgt := 56) dX2_enviesIfSwapped_50 (by decide) nI_1n0 ?_
        refine pE_iincN (c0 := 1) (lc' := [_, _, _, some (.int _), _, _]) dX2_enviesIfSwapped_53 rfl rfl rfl rfl ?_
        refine pE_iincN (c0 := 1) (lc' := [_, _, _, _, _, some (.int _)]) dX2_enviesIfSwapped_56 rfl rfl rfl rfl ?_
        refine pE_goto (tgt := 17) dX2_enviesIfSwapped_59 (by decide) ?_
        refine pE_cg (ih (j + 1) (by omega) (by omega)) ?_ rfl rfl rfl rfl
        first | (simp only [cntP, envB, decide_eq_true_eq]; rw [if_pos hb1, Nat.add_assoc]; done) | (simp only [cntP, envB, decide_eq_true_eq, if_neg hb0, Nat.add_zero]; done)
      · refine pE_if_eq_t (tgt := 56) dX2_enviesIfSwapped_50 (by decide) nI_0 ?_
        refine pE_iincN (c0 := 1) (lc' := [_, _, _, _, _, some (.int _)]) dX2_enviesIfSwapped_56 rfl rfl rfl rfl ?_
        refine pE_goto (tgt := 17) dX2_enviesIfSwapped_59 (by decide) ?_
        refine pE_cg (ih (j + 1) (by omega) (by omega)) ?_ rfl rfl rfl rfl
        first | (simp only [cntP, envB, decide_eq_true_eq]; rw [if_pos hb1, Nat.add_assoc]; done) | (simp only [cntP, envB, decide_eq_true_eq, if_neg hb0, Nat.add_zero]; done)
set_option maxHeartbeats 4000000 in
set_option maxRecDepth 100000 in
theorem L_X2_enviesOut {l : Launch} {X : pX} {t g : Nat} {I : pHI} {J : pHJ} {Q : pQ} {o : Nat} {x y : Int32} {H h : pN} (ho : isH o) (hH : cH o H I) (hr : rH H) (hst : ∀ {Q2 : pQ} (i : Nat), i < H 1 → Q2 (some (.int (nI (h i)))) I J (pR t g) → pM l X yX2_storeyIfSwapped mX2_storeyIfSwapped 1 [.ref o, .int (nI i), .int x, .int y] pK pK I J (pR t g) Q2) (hh : ∀ i, i < H 1 → h i ≤ 20) (hq : Q (some (.int (nI (allE H h (H 1))))) I J (pR t g)) : ∀ (n j : Nat) (v5 : Option Value), H 1 - j < n → j ≤ H 1 → pE l X mX2_enviesIfSwapped 2 pK 5 [some (.ref o), some (.int x), some (.int y), some (.int (nI (allE H h j))), some (.int (nI j)), v5] [] pK I J (pR t g) Q := by
  obtain ⟨fHFho0, fHFho1, fHFho2, fHFho3, fHFho4, fHFho5, fHFho6, fHFho7, fHFho8, fHFho9, fHFho10, fHFho11, fHFho12, fHFho13, fHFho14, fHFho15, fHFho16, fHFho17, fHFho18, fHFho19, fHFho20, fHFho21, fHFho22, fHFho23, fHFho24, fHFho25, fHFho26⟩ := HF t g ho
  intro n
  induction n with
  | zero => intro j v5 hn hj; exact absurd hn (Nat.not_lt_zero _)
  | succ n ih =>
    intro j v5 hn hj
    have hn8 := hr.2.1
    have hn20 := hr.1.2
    have hal := allE_le H h hn8 j (by omega)
    refine pE_iload dX2_enviesIfSwapped_5 rfl ?_
    refine pE_aload_n dX2_enviesIfSwapped_7 rfl rfl ?_
    refine pE_getI dX2_enviesIfSwapped_8 flX2_18 rfl (Or.inl rfl) (by first | assumption | rfl) ?_
    rw [hH.2.2.1]
    refine pE_icmp_ge (tgt := 68) dX2_enviesIfSwapped_11 (by decide) (fun h11 => ?_) (fun h11 => ?_)
    · have g11 := nq_le (by omega) (by omega) h11
      refine pE_iload_n dX2_enviesIfSwapped_68 rfl rfl ?_
      refine pE_iret dX2_enviesIfSwapped_69 rfl rfl ?_
      obtain rfl : j = H 1 := by omega
      exact hq
    · have g11 := nq_nle (by omega) (by omega) h11
      refine pE_iconst (v := nI 0) dX2_enviesIfSwapped_14 rfl ?_
      refine pE_istore (lc' := [_, _, _, _, _, some (.int _)]) dX2_enviesIfSwapped_15 (Nat.le_of_ble_eq_true rfl) rfl rfl ?_
      refine pE_cg (L_X2_enviesIn (c := allE H h j) ho hH hr hst hh (by omega) (by omega) ?_ (H 1 + 1) 0 (by omega) (by omega)) rfl rfl rfl rfl rfl
      refine pE_iincN (c0 := 1) (lc' := [_, _, _, _, some (.int _), _]) dX2_enviesIfSwapped_62 rfl rfl rfl rfl ?_
      refine pE_goto (tgt := 5) dX2_enviesIfSwapped_65 (by decide) ?_
      exact ih (j + 1) _ (by omega) (by omega)
set_option maxHeartbeats 4000000 in
set_option maxRecDepth 100000 in
theorem M_X2_enviesIfSwapped {l : Launch} {X : pX} {t g : Nat} {I : pHI} {J : pHJ} {Q : pQ} {o : Nat} {x y : Int32} {H h : pN} (ho : isH o) (hH : cH o H I) (hr : rH H) (hst : ∀ {Q2 : pQ} (i : Nat), i < H 1 → Q2 (some (.int (nI (h i)))) I J (pR t g) → pM l X yX2_storeyIfSwapped mX2_storeyIfSwapped 1 [.ref o, .int (nI i), .int x, .int y] pK pK I J (pR t g) Q2) (hh : ∀ i, i < H 1 → h i ≤ 20) (hq : Q (some (.int (nI (allE H h (H 1))))) I J (pR t g)) : pM l X yX2_enviesIfSwapped mX2_enviesIfSwapped 2 [.ref o, .int x, .int y] pK pK I J (pR t g) Q := by
  obtain ⟨fHFho0, fHFho1, fHFho2, fHFho3, fHFho4, fHFho5, fHFho6, fHFho7, fHFho8, fHFho9, fHFho10, fHFho11, fHFho12, fHFho13, fHFho14, fHFho15, fHFho16, fHFho17, fHFho18, fHFho19, fHFho20, fHFho21, fHFho22, fHFho23, fHFho24, fHFho25, fHFho26⟩ := HF t g ho
  refine pM_of rfl (fun h => by cases h) rfl pKM (Nat.le_of_ble_eq_true rfl) ?_
  refine pE_iconst (v := nI 0) dX2_enviesIfSwapped_0 rfl ?_
  refine pE_istore_n (lc' := [_, _, _, some (.int _), _, _]) dX2_enviesIfSwapped_1 rfl (Nat.le_of_ble_eq_true rfl) rfl rfl ?_
  refine pE_iconst (v := nI 0) dX2_enviesIfSwapped_2 rfl ?_
  refine pE_istore (lc' := [_, _, _, _, some (.int _), _]) dX2_enviesIfSwapped_3 (Nat.le_of_ble_eq_true rfl) rfl rfl ?_
  exact L_X2_enviesOut ho hH hr hst hh hq (H 1 + 1) 0 _ (by omega) (by omega)
set_option maxHeartbeats 4000000 in
set_option maxRecDepth 100000 in
theorem M_X11_quarrel {l : Launch} {X : pX} {t g : Nat} {I : pHI} {J : pHJ} {Q : pQ} {H : pN} (ht : isH t) (hH : cH t H I) (hr : rH H) (hq : Q (some (.int (nI (allE H (fun k => H (8 + k)) (H 1))))) I J (pR t g)) : pM l X yX11_quarrel mX11_quarrel 3 [.ref 0] pK pK I J (pR t g) Q := by
  obtain ⟨fHFht0, fHFht1, fHFht2, fHFht3, fHFht4, fHFht5, fHFht6, fHFht7, fHFht8, fHFht9, fHFht10, fHFht11, fHFht12, fHFht13, fHFht14, fHFht15, fHFht16, fHFht17, fHFht18, fHFht19, fHFht20, fHFht21, fHFht22, fHFht23, fHFht24, fHFht25, fHFht26⟩ := HF t g ht
  have hn8 := hr.2.1
  have hn20 := hr.1.2
  refine pM_of rfl (fun h => by cases h) rfl pKM (Nat.le_of_ble_eq_true rfl) ?_
  refine pE_aload_n dX11_quarrel_0 rfl rfl ?_
  refine pE_getR dX11_quarrel_1 flX11_29 rfl (by first | assumption | rfl) (by first | assumption | rfl) ?_
  refine pE_iconst (v := -1) dX11_quarrel_4 rfl ?_
  refine pE_iconst (v := -1) dX11_quarrel_5 rfl ?_
  refine pE_callV (d' := 2) (as := [_, _]) dX11_quarrel_6 lkX11_296 (cwX2_enviesIfSwapped _ _) ivX2_enviesIfSwapped ⟨_, rfl, rfl⟩ (by first | assumption | rfl) rfl rfl (Nat.le_of_ble_eq_true rfl) (by decide) pKK ?_
  refine M_X2_enviesIfSwapped (h := fun k => H (8 + k)) ht hH hr (fun i hi h => M_X2_storeyIfSwapped_0 ht hH hr hi h) (fun i hi => by have := (hr.2.2.2.2 i (by omega)).1; omega) ?_
  refine pE_iret dX11_quarrel_9 rfl rfl ?_
  exact hq
set_option maxHeartbeats 4000000 in
set_option maxRecDepth 100000 in
theorem L_X11_envies {l : Launch} {X : pX} {t g : Nat} {I : pHI} {J : pHJ} {Q : pQ} {a : Nat} {H : pN} (ht : isH t) (hH : cH t H I) (hr : rH H) (ha : a < H 1) (hq : Q (some (.int (setI (envB H (fun k => H (8 + k)) a) (H 1)))) I J (pR t g)) : ∀ (n j : Nat), H 1 - j < n → j ≤ H 1 → pE l X mX11_envies 1 pK 17 [some (.ref 0), some (.int (nI a)), some (.int (setI (envB H (fun k => H (8 + k)) a) j)), some (.int (nI j))] [] pK I J (pR t g) Q := by
  obtain ⟨fHFht0, fHFht1, fHFht2, fHFht3, fHFht4, fHFht5, fHFht6, fHFht7, fHFht8, fHFht9, fHFht10, fHFht11, fHFht12, fHFht13, fHFht14, fHFht15, fHFht16, fHFht17, fHFht18, fHFht19, fHFht20, fHFht21, fHFht22, fHFht23, fHFht24, fHFht25, fHFht26⟩ := HF t g ht
  intro n
  induction n with
  | zero => intro j hn hj; exact absurd hn (Nat.not_lt_zero _)
  | succ n ih =>
    intro j hn hj
    have hn8 := hr.2.1
    have hn20 := hr.1.2
    refine pE_iload_n dX11_envies_17 rfl rfl ?_
    refine pE_aload_n dX11_envies_18 rfl rfl ?_
    refine pE_getR dX11_envies_19 flX11_29 rfl (by first | assumption | rfl) (by first | assumption | rfl) ?_
    refine pE_getI dX11_envies_22 flX11_110 rfl (Or.inl rfl) (by first | assumption | rfl) ?_
    rw [hH.2.2.1]
    refine pE_icmp_ge (tgt := 70) dX11_envies_25 (by decide) (fun h25 => ?_) (fun h25 => ?_)
    · have g25 := nq_le (by omega) (by omega) h25
      refine pE_iload_n dX11_envies_70 rfl rfl ?_
      refine pE_iret dX11_envies_71 rfl rfl ?_
      obtain rfl : j = H 1 := by omega
      exact hq
    · have g25 := nq_nle (by omega) (by omega) h25
      refine pE_aload_n dX11_envies_28 rfl rfl ?_
      refine pE_getR dX11_envies_29 flX11_29 rfl (by first | assumption | rfl) (by first | assumption | rfl) ?_
      refine pE_iload_n dX11_envies_32 rfl rfl ?_
      refine pE_aload_n dX11_envies_33 rfl rfl ?_
      refine pE_getR dX11_envies_34 flX11_29 rfl (by first | assumption | rfl) (by first | assumption | rfl) ?_
      refine pE_getR dX11_envies_37 flX11_123 rfl (by first | assumption | rfl) (by first | assumption | rfl) ?_
      refine pE_iload_n dX11_envies_40 rfl rfl ?_
      refine pE_ialoadN dX11_envies_41 (by first | assumption | rfl) (by first | assumption | omega) (by omega) ?_
      rw [(hH.2.2.2.2.2 a (by omega)).1]
      refine pE_iload_n dX11_envies_42 rfl rfl ?_
      refine pE_aload_n dX11_envies_43 rfl rfl ?_
      refine pE_getR dX11_envies_44 flX11_29 rfl (by first | assumption | rfl) (by first | assumption | rfl) ?_
      refine pE_getR dX11_envies_47 flX11_123 rfl (by first | assumption | rfl) (by first | assumption | rfl) ?_
      refine pE_iload_n dX11_envies_50 rfl rfl ?_
      refine pE_ialoadN dX11_envies_51 (by first | assumption | rfl) (by first | assumption | omega) (by omega) ?_
      rw [(hH.2.2.2.2.2 j (by omega)).1]
      refine pE_callV (d' := 0) (as := [_, _, _, _]) dX11_envies_52 lkX11_213 (cwX2_isEnvious _ _) ivX2_isEnvious ⟨_, rfl, rfl⟩ (by first | assumption | rfl) rfl rfl (Nat.le_of_ble_eq_true rfl) (by decide) pKK ?_
      refine M_X2_isEnvious ht hH hr (by omega) (by omega) (by have := (hr.2.2.2.2 a (by omega)).1; omega) (by have := (hr.2.2.2.2 j (by omega)).1; omega) (fun hb1 => ?_) (fun hb0 => ?_)
      · refine pE_if_eq_f (tgt := 64) dX11_envies_55 (by decide) nI_1n0 ?_
        refine pE_iload_n dX11_envies_58 rfl rfl ?_
        refine pE_iconst (v := nI 1) dX11_envies_59 rfl ?_
        refine pE_iload_n dX11_envies_60 rfl rfl ?_
        refine pE_ishl dX11_envies_61 ?_
        refine pE_ior dX11_envies_62 ?_
        refine pE_istore_n (lc' := [_, _, some (.int _), _]) dX11_envies_63 rfl (Nat.le_of_ble_eq_true rfl) rfl rfl ?_
        refine pE_iincN (c0 := 1) (lc' := [_, _, _, some (.int _)]) dX11_envies_64 rfl rfl rfl rfl ?_
        refine pE_goto (tgt := 17) dX11_envies_67 (by decide) ?_
        refine pE_cg (ih (j + 1) (by omega) (by omega)) ?_ rfl rfl rfl rfl
        first | (simp only [setI, envB, decide_eq_true_eq]; rw [if_pos hb1]; done) | (simp only [setI, envB, decide_eq_true_eq]; rw [if_neg hb0]; done)
      · refine pE_if_eq_t (tgt := 64) dX11_envies_55 (by decide) nI_0 ?_
        refine pE_iincN (c0 := 1) (lc' := [_, _, _, some (.int _)]) dX11_envies_64 rfl rfl rfl rfl ?_
        refine pE_goto (tgt := 17) dX11_envies_67 (by decide) ?_
        refine pE_cg (ih (j + 1) (by omega) (by omega)) ?_ rfl rfl rfl rfl
        first | (simp only [setI, envB, decide_eq_true_eq]; rw [if_pos hb1]; done) | (simp only [setI, envB, decide_eq_true_eq]; rw [if_neg hb0]; done)
set_option maxHeartbeats 4000000 in
set_option maxRecDepth 100000 in
theorem M_X11_envies {l : Launch} {X : pX} {t g : Nat} {I : pHI} {J : pHJ} {Q : pQ} {x : Int32} {H : pN} (ht : isH t) (hH : cH t H I) (hr : rH H) (h1 : ∀ a, a < H 1 → x = nI a → Q (some (.int (setI (envB H (fun k => H (8 + k)) a) (H 1)))) I J (pR t g)) (h0 : (∀ a, a < H 1 → x ≠ nI a) → Q (some (.int (-1))) I J (pR t g)) : pM l X yX11_envies mX11_envies 1 [.ref 0, .int x] pK pK I J (pR t g) Q := by
  obtain ⟨fHFht0, fHFht1, fHFht2, fHFht3, fHFht4, fHFht5, fHFht6, fHFht7, fHFht8, fHFht9, fHFht10, fHFht11, fHFht12, fHFht13, fHFht14, fHFht15, fHFht16, fHFht17, fHFht18, fHFht19, fHFht20, fHFht21, fHFht22, fHFht23, fHFht24, fHFht25, fHFht26⟩ := HF t g ht
  have hn8 := hr.2.1
  have hn20 := hr.1.2
  refine pM_of rfl (fun h => by cases h) rfl pKM (Nat.le_of_ble_eq_true rfl) ?_
  refine pE_aload_n dX11_envies_0 rfl rfl ?_
  refine pE_getR dX11_envies_1 flX11_29 rfl (by first | assumption | rfl) (by first | assumption | rfl) ?_
  refine pE_iload_n dX11_envies_4 rfl rfl ?_
  refine pE_callV (d' := 0) (as := [_]) dX11_envies_5 lkX11_119 (cwX2_hasTenant _ _) ivX2_hasTenant ⟨_, rfl, rfl⟩ (by first | assumption | rfl) rfl rfl (Nat.le_of_ble_eq_true rfl) (by decide) pKK ?_
  refine M_X2_hasTenant (H := H) ht hH.2.2.1 hn8 (fun a ha e => ?_) (fun hno => ?_)
  · subst e
    refine pE_if_ne_t (tgt := 13) dX11_envies_8 (by decide) nI_1n0 ?_
    refine pE_iconst (v := nI 0) dX11_envies_13 rfl ?_
    refine pE_istore_n (lc' := [_, _, some (.int _), _]) dX11_envies_14 rfl (Nat.le_of_ble_eq_true rfl) rfl rfl ?_
    refine pE_iconst (v := nI 0) dX11_envies_15 rfl ?_
    refine pE_istore_n (lc' := [_, _, _, some (.int _)]) dX11_envies_16 rfl (Nat.le_of_ble_eq_true rfl) rfl rfl ?_
    exact L_X11_envies ht hH hr ha (h1 a ha rfl) (H 1 + 1) 0 (by omega) (by omega)
  · refine pE_if_ne_f (tgt := 13) dX11_envies_8 (by decide) nI_0 ?_
    refine pE_iconst (v := -1) dX11_envies_11 rfl ?_
    refine pE_iret dX11_envies_12 rfl rfl ?_
    exact h0 hno
set_option maxHeartbeats 4000000 in
set_option maxRecDepth 100000 in
theorem M_X12_isEnvied {l : Launch} {X : pX} {t g : Nat} {I : pHI} {J : pHJ} {Q : pQ} {a b : Nat} {H h : pN} (hH : mH H I) (hr : rH H) (hho : ∀ j, j < H 1 → I 99 j = nI (h j)) (hb : ∀ j, j < H 1 → h j ≤ 20) (ha : a < H 1) (hb2 : b < H 1) (h1 : envB H h a b = true → Q (some (.int (nI 1))) I J (pR t g)) (h0 : envB H h a b = false → Q (some (.int (nI 0))) I J (pR t g)) : pM l X yX12_isEnvied mX12_isEnvied 0 [.ref 67, .int (nI a), .int (nI b)] pK pK I J (pR t g) Q := by
  have hn8 := hr.2.1
  have q1 := (hr.2.2.2.2 a (by omega)).2.2.2.1
  have q2 := (hr.2.2.2.2 b (by omega)).2.2.2.1
  have q3 := hb a ha
  have q4 := hb b hb2
  refine pM_of rfl (fun h => by cases h) rfl pKM (Nat.le_of_ble_eq_true rfl) ?_
  refine pE_aload_n dX12_isEnvied_0 rfl rfl ?_
  refine pE_getR dX12_isEnvied_1 flX12_112 rfl (by first | assumption | rfl) (by first | assumption | rfl) ?_
  refine pE_iload_n dX12_isEnvied_4 rfl rfl ?_
  refine pE_ialoadN dX12_isEnvied_5 (by first | assumption | rfl) (by first | assumption | omega) (by omega) ?_
  rw [hho b hb2]
  refine pE_aload_n dX12_isEnvied_6 rfl rfl ?_
  refine pE_getR dX12_isEnvied_7 flX12_112 rfl (by first | assumption | rfl) (by first | assumption | rfl) ?_
  refine pE_iload_n dX12_isEnvied_10 rfl rfl ?_
  refine pE_ialoadN dX12_isEnvied_11 (by first | assumption | rfl) (by first | assumption | omega) (by omega) ?_
  rw [hho a ha]
  refine pE_icmp_gt (tgt := 34) dX12_isEnvied_12 (by decide) (fun h12 => ?_) (fun h12 => ?_)
  · have g12 := nq_lt (by omega) (by omega) h12
    refine pE_iconst (v := nI 0) dX12_isEnvied_34 rfl ?_
    refine pE_zret dX12_isEnvied_35 rfl (by first | exact Or.inl nI_0 | exact Or.inr nI_1' | assumption) rfl ?_
    first | exact h1 (by simp only [envB, decide_eq_true_eq]; omega) | exact h0 (by simp only [envB, decide_eq_false_iff_not]; omega)
  · have g12 := nq_nlt (by omega) (by omega) h12
    refine pE_aload_n dX12_isEnvied_15 rfl rfl ?_
    refine pE_getR dX12_isEnvied_16 flX12_76 rfl (by first | assumption | rfl) (by first | assumption | rfl) ?_
    refine pE_iload_n dX12_isEnvied_19 rfl rfl ?_
    refine pE_ialoadN dX12_isEnvied_20 (by first | assumption | rfl) (by first | assumption | omega) (by omega) ?_
    rw [(hH.2.2.2 b hb2).2.2.2.1]
    refine pE_aload_n dX12_isEnvied_21 rfl rfl ?_
    refine pE_getR dX12_isEnvied_22 flX12_76 rfl (by first | assumption | rfl) (by first | assumption | rfl) ?_
    refine pE_iload_n dX12_isEnvied_25 rfl rfl ?_
    refine pE_ialoadN dX12_isEnvied_26 (by first | assumption | rfl) (by first | assumption | omega) (by omega) ?_
    rw [(hH.2.2.2 a ha).2.2.2.1]
    refine pE_icmp_ge (tgt := 34) dX12_isEnvied_27 (by decide) (fun h27 => ?_) (fun h27 => ?_)
    · have g27 := nq_le (by omega) (by omega) h27
      refine pE_iconst (v := nI 0) dX12_isEnvied_34 rfl ?_
      refine pE_zret dX12_isEnvied_35 rfl (by first | exact Or.inl nI_0 | exact Or.inr nI_1' | assumption) rfl ?_
      first | exact h1 (by simp only [envB, decide_eq_true_eq]; omega) | exact h0 (by simp only [envB, decide_eq_false_iff_not]; omega)
    · have g27 := nq_nle (by omega) (by omega) h27
      refine pE_iconst (v := nI 1) dX12_isEnvied_30 rfl ?_
      refine pE_goto (tgt := 35) dX12_isEnvied_31 (by decide) ?_
      refine pE_zret dX12_isEnvied_35 rfl (by first | exact Or.inl nI_0 | exact Or.inr nI_1' | assumption) rfl ?_
      first | exact h1 (by simp only [envB, decide_eq_true_eq]; omega) | exact h0 (by simp only [envB, decide_eq_false_iff_not]; omega)
set_option maxHeartbeats 4000000 in
set_option maxRecDepth 100000 in
theorem L_X12_allIn {l : Launch} {X : pX} {t g : Nat} {I : pHI} {J : pHJ} {Q : pQ} {a c : Nat} {H h : pN} (hH : mH H I) (hr : rH H) (hho : ∀ j, j < H 1 → I 99 j = nI (h j)) (hb : ∀ j, j < H 1 → h j ≤ 20) (ha : a < H 1) (hc : c ≤ 100) (hk : pE l X mX12_allEnvies 1 pK 40 [some (.ref 67), some (.int (nI (c + cntP (envB H h a) (H 1)))), some (.int (nI a)), some (.int (nI (H 1)))] [] pK I J (pR t g) Q) : ∀ (n j : Nat), H 1 - j < n → j ≤ H 1 → pE l X mX12_allEnvies 1 pK 14 [some (.ref 67), some (.int (nI (c + cntP (envB H h a) j))), some (.int (nI a)), some (.int (nI j))] [] pK I J (pR t g) Q := by
  intro n
  induction n with
  | zero => intro j hn hj; exact absurd hn (Nat.not_lt_zero _)
  | succ n ih =>
    intro j hn hj
    have hn8 := hr.2.1
    have hcn := cntP_le (envB H h a) j
    refine pE_iload_n dX12_allEnvies_14 rfl rfl ?_
    refine pE_aload_n dX12_allEnvies_15 rfl rfl ?_
    refine pE_getI dX12_allEnvies_16 flX12_350 rfl (Or.inl rfl) (by first | assumption | rfl) ?_
    rw [hH.2.1]
    refine pE_icmp_ge (tgt := 40) dX12_allEnvies_19 (by decide) (fun h19 => ?_) (fun h19 => ?_)
    · have g19 := nq_le (by omega) (by omega) h19
      obtain rfl : j = H 1 := by omega
      exact hk
    · have g19 := nq_nle (by omega) (by omega) h19
      refine pE_iload_n dX12_allEnvies_22 rfl rfl ?_
      refine pE_aload_n dX12_allEnvies_23 rfl rfl ?_
      refine pE_iload_n dX12_allEnvies_24 rfl rfl ?_
      refine pE_iload_n dX12_allEnvies_25 rfl rfl ?_
      refine pE_callV (d' := 0) (as := [_, _]) dX12_allEnvies_26 lkX12_454 (cwX12_isEnvied _ _) ivX12_isEnvied ⟨_, rfl, rfl⟩ (by first | assumption | rfl) rfl rfl (Nat.le_of_ble_eq_true rfl) (by decide) pKK ?_
      refine M_X12_isEnvied hH hr hho hb ha (by omega) (fun hb1 => ?_) (fun hb0 => ?_)
      · refine pE_callS (d' := 0) (as := [_]) dX12_allEnvies_29 lkX12_304 (cwX12_truth _ _) svX12_truth rfl rfl (Nat.le_of_ble_eq_true rfl) (by decide) pKK ?_
        refine M_X12_truth (by first | exact Or.inl rfl | exact Or.inr rfl) ?_
        refine pE_iaddN dX12_allEnvies_32 ?_
        refine pE_istore_n (lc' := [_, some (.int _), _, _]) dX12_allEnvies_33 rfl (Nat.le_of_ble_eq_true rfl) rfl rfl ?_
        refine pE_iincN (c0 := 1) (lc' := [_, _, _, some (.int _)]) dX12_allEnvies_34 rfl rfl rfl rfl ?_
        refine pE_goto (tgt := 14) dX12_allEnvies_37 (by decide) ?_
        refine pE_cg (ih (j + 1) (by omega) (by omega)) ?_ rfl rfl rfl rfl
        first | (simp only [cntP]; rw [if_pos hb1, Nat.add_assoc]; done) | (simp only [cntP]; rw [if_neg (by rw [hb0]; decide), Nat.add_assoc]; done)
      · refine pE_callS (d' := 0) (as := [_]) dX12_allEnvies_29 lkX12_304 (cwX12_truth _ _) svX12_truth rfl rfl (Nat.le_of_ble_eq_true rfl) (by decide) pKK ?_
        refine M_X12_truth (by first | exact Or.inl rfl | exact Or.inr rfl) ?_
        refine pE_iaddN dX12_allEnvies_32 ?_
        refine pE_istore_n (lc' := [_, some (.int _), _, _]) dX12_allEnvies_33 rfl (Nat.le_of_ble_eq_true rfl) rfl rfl ?_
        refine pE_iincN (c0 := 1) (lc' := [_, _, _, some (.int _)]) dX12_allEnvies_34 rfl rfl rfl rfl ?_
        refine pE_goto (tgt := 14) dX12_allEnvies_37 (by decide) ?_
        refine pE_cg (ih (j + 1) (by omega) (by omega)) ?_ rfl rfl rfl rfl
        first | (simp only [cntP]; rw [if_pos hb1, Nat.add_assoc]; done) | (simp only [cntP]; rw [if_neg (by rw [hb0]; decide), Nat.add_assoc]; done)
set_option maxHeartbeats 4000000 in
set_option maxRecDepth 100000 in
theorem L_X12_allOut {l : Launch} {X : pX} {t g : Nat} {I : pHI} {J : pHJ} {Q : pQ} {H h : pN} (hH : mH H I) (hr : rH H) (hho : ∀ j, j < H 1 → I 99 j = nI (h j)) (hb : ∀ j, j < H 1 → h j ≤ 20) (hq : Q (some (.int (nI (allE H h (H 1))))) I J (pR t g)) : ∀ (n j : Nat) (v3 : Option Value), H 1 - j < n → j ≤ H 1 → pE l X mX12_allEnvies 1 pK 4 [some (.ref 67), some (.int (nI (allE H h j))), some (.int (nI j)), v3] [] pK I J (pR t g) Q := by
  intro n
  induction n with
  | zero => intro j v3 hn hj; exact absurd hn (Nat.not_lt_zero _)
  | succ n ih =>
    intro j v3 hn hj
    have hn8 := hr.2.1
    have hal := allE_le H h hn8 j (by omega)
    refine pE_iload_n dX12_allEnvies_4 rfl rfl ?_
    refine pE_aload_n dX12_allEnvies_5 rfl rfl ?_
    refine pE_getI dX12_allEnvies_6 flX12_350 rfl (Or.inl rfl) (by first | assumption | rfl) ?_
    rw [hH.2.1]
    refine pE_icmp_ge (tgt := 46) dX12_allEnvies_9 (by decide) (fun h9 => ?_) (fun h9 => ?_)
    · have g9 := nq_le (by omega) (by omega) h9
      refine pE_iload_n dX12_allEnvies_46 rfl rfl ?_
      refine pE_iret dX12_allEnvies_47 rfl rfl ?_
      obtain rfl : j = H 1 := by omega
      exact hq
    · have g9 := nq_nle (by omega) (by omega) h9
      refine pE_iconst (v := nI 0) dX12_allEnvies_12 rfl ?_
      refine pE_istore_n (lc' := [_, _, _, some (.int _)]) dX12_allEnvies_13 rfl (Nat.le_of_ble_eq_true rfl) rfl rfl ?_
      refine pE_cg (L_X12_allIn (c := allE H h j) hH hr hho hb (by omega) (by omega) ?_ (H 1 + 1) 0 (by omega) (by omega)) rfl rfl rfl rfl rfl
      refine pE_iincN (c0 := 1) (lc' := [_, _, some (.int _), _]) dX12_allEnvies_40 rfl rfl rfl rfl ?_
      refine pE_goto (tgt := 4) dX12_allEnvies_43 (by decide) ?_
      exact ih (j + 1) _ (by omega) (by omega)
set_option maxHeartbeats 4000000 in
set_option maxRecDepth 100000 in
theorem M_X12_allEnvies {l : Launch} {X : pX} {t g : Nat} {I : pHI} {J : pHJ} {Q : pQ} {H h : pN} (hH : mH H I) (hr : rH H) (hho : ∀ j, j < H 1 → I 99 j = nI (h j)) (hb : ∀ j, j < H 1 → h j ≤ 20) (hq : Q (some (.int (nI (allE H h (H 1))))) I J (pR t g)) : pM l X yX12_allEnvies mX12_allEnvies 1 [.ref 67] pK pK I J (pR t g) Q := by
  refine pM_of rfl (fun h => by cases h) rfl pKM (Nat.le_of_ble_eq_true rfl) ?_
  refine pE_iconst (v := nI 0) dX12_allEnvies_0 rfl ?_
  refine pE_istore_n (lc' := [_, some (.int _), _, _]) dX12_allEnvies_1 rfl (Nat.le_of_ble_eq_true rfl) rfl rfl ?_
  refine pE_iconst (v := nI 0) dX12_allEnvies_2 rfl ?_
  refine pE_istore_n (lc' := [_, _, some (.int _), _]) dX12_allEnvies_3 rfl (Nat.le_of_ble_eq_true rfl) rfl rfl ?_
  exact L_X12_allOut hH hr hho hb hq (H 1 + 1) 0 _ (by omega) (by omega)
set_option maxHeartbeats 4000000 in
set_option maxRecDepth 100000 in
theorem M_X12_quarrel {l : Launch} {X : pX} {t g : Nat} {I : pHI} {J : pHJ} {Q : pQ} {H : pN} (hH : mH H I) (hr : rH H) (hq : ∀ I1, sz I I1 → Q (some (.int (nI (allE H (fun k => H (8 + k)) (H 1))))) I1 J (pR t g)) : pM l X yX12_quarrel mX12_quarrel 2 [.ref 67] pK pK I J (pR t g) Q := by
  have hn8 := hr.2.1
  have hn20 := hr.1.2
  refine pM_of rfl (fun h => by cases h) rfl pKM (Nat.le_of_ble_eq_true rfl) ?_
  refine pE_aload_n dX12_quarrel_0 rfl rfl ?_
  refine pE_callV (d' := 0) (as := []) dX12_quarrel_1 lkX12_458 (cwX12_layHomes _ _) ivX12_layHomes ⟨_, rfl, rfl⟩ (by first | assumption | rfl) rfl rfl (Nat.le_of_ble_eq_true rfl) (by decide) pKK ?_
  refine M_X12_layHomes hH hr (fun I1 hz hho => ?_)
  refine pE_aload_n dX12_quarrel_4 rfl rfl ?_
  refine pE_callV (d' := 1) (as := []) dX12_quarrel_5 lkX12_461 (cwX12_allEnvies _ _) ivX12_allEnvies ⟨_, rfl, rfl⟩ (by first | assumption | rfl) rfl rfl (Nat.le_of_ble_eq_true rfl) (by decide) pKK ?_
  refine M_X12_allEnvies (h := fun k => H (8 + k)) (hH.sz hz) hr hho (fun j hj => by have := (hr.2.2.2.2 j (by omega)).1; omega) ?_
  refine pE_iret dX12_quarrel_8 rfl rfl ?_
  exact hq I1 hz
set_option maxHeartbeats 4000000 in
set_option maxRecDepth 100000 in
theorem L_X12_envies {l : Launch} {X : pX} {t g : Nat} {I : pHI} {J : pHJ} {Q : pQ} {a : Nat} {H h : pN} (hH : mH H I) (hr : rH H) (hho : ∀ j, j < H 1 → I 99 j = nI (h j)) (hb : ∀ j, j < H 1 → h j ≤ 20) (ha : a < H 1) (hq : Q (some (.int (setI (envB H h a) (H 1)))) I J (pR t g)) : ∀ (n j : Nat), H 1 - j < n → j ≤ H 1 → pE l X mX12_envies 2 pK 18 [some (.ref 67), some (.int (nI a)), some (.int (setI (envB H h a) j)), some (.int (nI j))] [] pK I J (pR t g) Q := by
  intro n
  induction n with
  | zero => intro j hn hj; exact absurd hn (Nat.not_lt_zero _)
  | succ n ih =>
    intro j hn hj
    have hn8 := hr.2.1
    have hn20 := hr.1.2
    refine pE_iload_n dX12_envies_18 rfl rfl ?_
    refine pE_aload_n dX12_envies_19 rfl rfl ?_
    refine pE_getI dX12_envies_20 flX12_350 rfl (Or.inl rfl) (by first | assumption | rfl) ?_
    rw [hH.2.1]
    refine pE_icmp_ge (tgt := 46) dX12_envies_23 (by decide) (fun h23 => ?_) (fun h23 => ?_)
    · have g23 := nq_le (by omega) (by omega) h23
      refine pE_iload_n dX12_envies_46 rfl rfl ?_
      refine pE_iret dX12_envies_47 rfl rfl ?_
      obtain rfl : j = H 1 := by omega
      exact hq
    · have g23 := nq_nle (by omega) (by omega) h23
      refine pE_iload_n dX12_envies_26 rfl rfl ?_
      refine pE_aload_n dX12_envies_27 rfl rfl ?_
      refine pE_iload_n dX12_envies_28 rfl rfl ?_
      refine pE_iload_n dX12_envies_29 rfl rfl ?_
      refine pE_callV (d' := 0) (as := [_, _]) dX12_envies_30 lkX12_454 (cwX12_isEnvied _ _) ivX12_isEnvied ⟨_, rfl, rfl⟩ (by first | assumption | rfl) rfl rfl (Nat.le_of_ble_eq_true rfl) (by decide) pKK ?_
      refine M_X12_isEnvied hH hr hho hb ha (by omega) (fun hb1 => ?_) (fun hb0 => ?_)
      · refine pE_callS (d' := 0) (as := [_]) dX12_envies_33 lkX12_304 (cwX12_truth _ _) svX12_truth rfl rfl (Nat.le_of_ble_eq_true rfl) (by decide) pKK ?_
        refine M_X12_truth (by first | exact Or.inl rfl | exact Or.inr rfl) ?_
        refine pE_iload_n dX12_envies_36 rfl rfl ?_
        refine pE_ishl dX12_envies_37 ?_
        refine pE_ior dX12_envies_38 ?_
        refine pE_istore_n (lc' := [_, _, some (.int _), _]) dX12_envies_39 rfl (Nat.le_of_ble_eq_true rfl) rfl rfl ?_
        refine pE_iincN (c0 := 1) (lc' := [_, _, _, some (.int _)]) dX12_envies_40 rfl rfl rfl rfl ?_
        refine pE_goto (tgt := 18) dX12_envies_43 (by decide) ?_
        refine pE_cg (ih (j + 1) (by omega) (by omega)) ?_ rfl rfl rfl rfl
        first | (simp only [setI]; rw [if_pos hb1]; done) | (simp only [setI]; rw [if_neg (by rw [hb0]; decide), or_sh0 _ (by omega)]; done)
      · refine pE_callS (d' := 0) (as := [_]) dX12_envies_33 lkX12_304 (cwX12_truth _ _) svX12_truth rfl rfl (Nat.le_of_ble_eq_true rfl) (by decide) pKK ?_
        refine M_X12_truth (by first | exact Or.inl rfl | exact Or.inr rfl) ?_
        refine pE_iload_n dX12_envies_36 rfl rfl ?_
        refine pE_ishl dX12_envies_37 ?_
        refine pE_ior dX12_envies_38 ?_
        refine pE_istore_n (lc' := [_, _, some (.int _), _]) dX12_envies_39 rfl (Nat.le_of_ble_eq_true rfl) rfl rfl ?_
        refine pE_iincN (c0 := 1) (lc' := [_, _, _, some (.int _)]) dX12_envies_40 rfl rfl rfl rfl ?_
        refine pE_goto (tgt := 18) dX12_envies_43 (by decide) ?_
        refine pE_cg (ih (j + 1) (by omega) (by omega)) ?_ rfl rfl rfl rfl
        first | (simp only [setI]; rw [if_pos hb1]; done) | (simp only [setI]; rw [if_neg (by rw [hb0]; decide), or_sh0 _ (by omega)]; done)
set_option maxHeartbeats 4000000 in
set_option maxRecDepth 100000 in
theorem M_X12_envies {l : Launch} {X : pX} {t g : Nat} {I : pHI} {J : pHJ} {Q : pQ} {x : Int32} {H : pN} (hH : mH H I) (hr : rH H) (h1 : ∀ a, a < H 1 → x = nI a → ∀ I1, sz I I1 → Q (some (.int (setI (envB H (fun k => H (8 + k)) a) (H 1)))) I1 J (pR t g)) (h0 : (∀ a, a < H 1 → x ≠ nI a) → Q (some (.int (-1))) I J (pR t g)) : pM l X yX12_envies mX12_envies 2 [.ref 67, .int x] pK pK I J (pR t g) Q := by
  have hn8 := hr.2.1
  have hn20 := hr.1.2
  refine pM_of rfl (fun h => by cases h) rfl pKM (Nat.le_of_ble_eq_true rfl) ?_
  refine pE_aload_n dX12_envies_0 rfl rfl ?_
  refine pE_iload_n dX12_envies_1 rfl rfl ?_
  refine pE_callV (d' := 1) (as := [_]) dX12_envies_2 lkX12_382 (cwX12_isTenant _ _) ivX12_isTenant ⟨_, rfl, rfl⟩ (by first | assumption | rfl) rfl rfl (Nat.le_of_ble_eq_true rfl) (by decide) pKK ?_
  refine M_X12_isTenant (H := H) hH.2.1 hn8 (fun a ha e => ?_) (fun hno => ?_)
  · subst e
    refine pE_if_ne_t (tgt := 10) dX12_envies_5 (by decide) nI_1n0 ?_
    refine pE_aload_n dX12_envies_10 rfl rfl ?_
    refine pE_callV (d' := 0) (as := []) dX12_envies_11 lkX12_458 (cwX12_layHomes _ _) ivX12_layHomes ⟨_, rfl, rfl⟩ (by first | assumption | rfl) rfl rfl (Nat.le_of_ble_eq_true rfl) (by decide) pKK ?_
    refine M_X12_layHomes hH hr (fun I1 hz hho => ?_)
    refine pE_iconst (v := nI 0) dX12_envies_14 rfl ?_
    refine pE_istore_n (lc' := [_, _, some (.int _), _]) dX12_envies_15 rfl (Nat.le_of_ble_eq_true rfl) rfl rfl ?_
    refine pE_iconst (v := nI 0) dX12_envies_16 rfl ?_
    refine pE_istore_n (lc' := [_, _, _, some (.int _)]) dX12_envies_17 rfl (Nat.le_of_ble_eq_true rfl) rfl rfl ?_
    exact L_X12_envies (h := fun k => H (8 + k)) (hH.sz hz) hr hho (fun j hj => by have := (hr.2.2.2.2 j (by omega)).1; omega) ha (h1 a ha rfl I1 hz) (H 1 + 1) 0 (by omega) (by omega)
  · refine pE_if_ne_f (tgt := 10) dX12_envies_5 (by decide) nI_0 ?_
    refine pE_iconst (v := -1) dX12_envies_8 rfl ?_
    refine pE_iret dX12_envies_9 rfl rfl ?_
    exact h0 hno
