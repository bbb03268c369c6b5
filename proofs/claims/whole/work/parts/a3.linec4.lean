def zF (D : pDt) : Prop := ∀ j, D.1 1 ≤ j → j < 8 → D.1 (40 + j) = 0
theorem ln1_z {B : Nat → Nat} {n p : Nat} {b : Bool} {D : pDt} (h : zF D) : zF (ln1 B n p b D).2 := by
  unfold ln1
  split
  · intro j h1 h2
    simp only [stL] at h1 ⊢
    rw [upN_n (by omega), upN_n (by omega)] at h1 ⊢
    exact h j h1 h2
  · split
    · intro j h1 h2
      have h1' : tnH B n p D 1 ≤ j := h1
      rw [show tnH B n p D 1 = D.1 1 + 1 from upN_e] at h1'
      show tnH B n p D (40 + j) = 0
      unfold tnH
      rw [upN_n (by omega), upN_n (by omega), upN_n (by omega), upN_n (by omega), upN_n (by omega), upN_n (by omega)]
      exact h j (by omega) h2
    · split
      · intro j h1 h2
        dsimp only at h1 ⊢
        rw [upN_n (by omega)] at h1 ⊢
        exact h j h1 h2
      · split
        · intro j h1 h2
          dsimp only at h1 ⊢
          rw [upN_n (by omega)] at h1 ⊢
          exact h j h1 h2
        · split
          · intro j h1 h2
            dsimp only at h1 ⊢
            rw [upN_n (by omega)] at h1 ⊢
            exact h j h1 h2
          · exact h
theorem ln1_T {B : Nat → Nat} {n p : Nat} {D : pDt} (h : tkWb B n p 3 = true) (h8 : D.1 1 < 8) : ln1 B n p false D = tnL B n p D := by
  unfold ln1; rw [if_neg (by simp), if_pos ⟨h, h8⟩]
theorem ln1_T8 {B : Nat → Nat} {n p : Nat} {D : pDt} (h : tkWb B n p 3 = true) (h8 : ¬ D.1 1 < 8) : ln1 B n p false D = (.inl (2, tQ B n p), D) := by
  have a := wd_ne (show 3 ∈ ownI by decide) (show 10 ∈ ownI by decide) h (by decide)
  have b := wd_ne (show 3 ∈ ownI by decide) (show 17 ∈ ownI by decide) h (by decide)
  have c := wd_ne (show 3 ∈ ownI by decide) (show 18 ∈ ownI by decide) h (by decide)
  unfold ln1; rw [if_neg (by simp), if_neg (fun q => h8 q.2), if_neg (fun q => a q.1), if_neg (fun q => b q.1), if_neg (fun q => c q.1)]
theorem ln1_C {B : Nat → Nat} {n p : Nat} {D : pDt} (h : tkWb B n p 10 = true) (h1 : D.2.2.1 = none) : ln1 B n p false D = (psR (foP B n p), upN D.1 4 (D.1 4 + psU (foP B n p)), D.2.1, some (psO (foP B n p)), D.2.2.2) := by
  have a := wd_ne (show 10 ∈ ownI by decide) (show 3 ∈ ownI by decide) h (by decide)
  unfold ln1; rw [if_neg (by simp), if_neg (fun q => a q.1), if_pos ⟨h, h1⟩]
theorem ln1_M {B : Nat → Nat} {n p : Nat} {D : pDt} (h : tkWb B n p 17 = true) (h1 : D.2.2.2.1 = none) : ln1 B n p false D = (psR (foP B n p), upN D.1 4 (D.1 4 + psU (foP B n p)), D.2.1, D.2.2.1, some (psO (foP B n p)), D.2.2.2.2) := by
  have a := wd_ne (show 17 ∈ ownI by decide) (show 3 ∈ ownI by decide) h (by decide)
  have b := wd_ne (show 17 ∈ ownI by decide) (show 10 ∈ ownI by decide) h (by decide)
  unfold ln1; rw [if_neg (by simp), if_neg (fun q => a q.1), if_neg (fun q => b q.1), if_pos ⟨h, h1⟩]
theorem ln1_D {B : Nat → Nat} {n p : Nat} {D : pDt} (h : tkWb B n p 18 = true) (h1 : D.2.2.2.2 = false) : ln1 B n p false D = (rdN B n 0 999 (stp B n p), upN D.1 3 (vlN B n (stp B n p)), D.2.1, D.2.2.1, D.2.2.2.1, true) := by
  have a := wd_ne (show 18 ∈ ownI by decide) (show 3 ∈ ownI by decide) h (by decide)
  have b := wd_ne (show 18 ∈ ownI by decide) (show 10 ∈ ownI by decide) h (by decide)
  have c := wd_ne (show 18 ∈ ownI by decide) (show 17 ∈ ownI by decide) h (by decide)
  unfold ln1; rw [if_neg (by simp), if_neg (fun q => a q.1), if_neg (fun q => b q.1), if_neg (fun q => c q.1), if_pos ⟨h, h1⟩]
theorem ln1_0 {B : Nat → Nat} {n p : Nat} {D : pDt} (h3 : ¬ tkWb B n p 3 = true) (h10 : ¬ (tkWb B n p 10 = true ∧ D.2.2.1 = none)) (h17 : ¬ (tkWb B n p 17 = true ∧ D.2.2.2.1 = none)) (h18 : ¬ (tkWb B n p 18 = true ∧ D.2.2.2.2 = false)) : ln1 B n p false D = (.inl (2, tQ B n p), D) := by
  unfold ln1; rw [if_neg (by simp), if_neg (fun q => h3 q.1), if_neg h10, if_neg h17, if_neg h18]
theorem ln1_b {B : Nat → Nat} {n p : Nat} {D : pDt} (h : ¬ tkWb B n p 1 = true) : ln1 B n p true D = ln1 B n p false D := by
  unfold ln1
  rw [if_neg (show ¬ (tkWb B n p 1 = true ∧ true = true) from fun q => h q.1), if_neg (show ¬ (tkWb B n p 1 = true ∧ false = true) from fun q => h q.1)]
theorem sFo.L {o f : Nat} {I I1 : pHI} (h : sFo o f I I1) (hf : f = o + 6 ∨ f = o + 10) : sRL o I I1 := fun c k a b d => h c k a (fun q => b ⟨q.1, by omega⟩) (fun q => d (by omega)) (fun q => d (by omega)) (fun q => d (by omega)) (fun q => d (by omega))
theorem cH.fo {o f v : Nat} {H : pN} {I I1 : pHI} (ho : isH o) (hf : f = o + 6 ∨ f = o + 10) (h : cH o H I) (hx : sFo o f I I1) (h11 : I1 o 11 = nI v) : cH o (upN H 4 v) I1 := by
  have hb := isH_b ho
  obtain ⟨a, b, c, d, e, g⟩ := h
  have k : ∀ c k, (c = o ∧ k ≠ 11) ∨ (o + 1 ≤ c ∧ c ≤ o + 5) → I1 c k = I c k := fun c k z => hx c k (by omega) (by omega) (by omega) (by omega) (by omega) (by omega)
  refine ⟨?_, ?_, ?_, ?_, ?_, fun j hj => ?_⟩
  · rw [upN_n (by omega), k _ _ (by omega)]; exact a
  · rw [upN_n (by omega), k _ _ (by omega)]; exact b
  · rw [upN_n (by omega), k _ _ (by omega)]; exact c
  · rw [upN_n (by omega), k _ _ (by omega)]; exact d
  · rw [upN_e]; exact h11
  · rw [k _ _ (by omega), k _ _ (by omega), k _ _ (by omega), k _ _ (by omega), k _ _ (by omega), upN_n (by omega), upN_n (by omega), upN_n (by omega), upN_n (by omega), upN_n (by omega)]
    exact g j hj
set_option maxHeartbeats 400000 in
set_option maxRecDepth 100000 in
theorem M_X8_readTenant {l : Launch} {X : pX} {t g : Nat} {I : pHI} {J : pHJ} {Q : pQ} {n o p : Nat} {B : Nat → Nat} {D : pDt} (ho : isH o) (hT : tpC I n B) (hr : cRd B n I J (.inr p)) (hD : cDt o I J D) (hrD : rDt D) (hz : zF D) (h3 : tkWb B n p 3 = true) (hq : ∀ I1 J1, sRL o I I1 → jL J J1 → cRd B n I1 J1 (ln1 B n p false D).1 → (∀ q, (ln1 B n p false D).1 = .inr q → cDt o I1 J1 (ln1 B n p false D).2) → Q none I1 J1 (pR t g)) : pM l X yX8_readTenant mX8_readTenant 8 [.ref 2, .ref o] pK pK I J (pR t g) Q := by
  by_cases h8 : D.1 1 < 8
  · rw [ln1_T h3 h8] at hq
    exact M_X8_readTenantO ho hT hr hD hrD h8 (hz _ (Nat.le_refl _) h8) hq
  · rw [ln1_T8 h3 h8] at hq
    exact M_X8_readTenantF ho hT hr hD (by have := hrD.2.1; omega) (fun I1 x1 z1 => hq I1 J x1 jL.rf z1 (fun q e => by cases e))
set_option maxHeartbeats 400000 in
set_option maxRecDepth 100000 in
theorem L_X8_line140 {l : Launch} {X : pX} {t g : Nat} {I : pHI} {J : pHJ} {Q : pQ} {n o p : Nat} {B : Nat → Nat} {D : pDt} {I1 : pHI} {J1 : pHJ} (ho : isH o) (hT : tpC I n B) (hx : sRL o I I1) (jx : jL J J1) (hr1 : cRd B n I1 J1 (ln1 B n p false D).1) (hc : ∀ q, (ln1 B n p false D).1 = .inr q → cDt o I1 J1 (ln1 B n p false D).2) (hq : ∀ I1 J1, sRL o I I1 → jL J J1 → cRd B n I1 J1 (lnL B n p false D).1 → (∀ q, (lnL B n p false D).1 = .inr q → cDt o I1 J1 (lnL B n p false D).2) → Q none I1 J1 (pR t g)) : pE l X mX8_readLine 72 pK 140 [some (.ref 2), some (.ref o)] [] pK I1 J1 (pR t g) Q := by
  refine pE_aload_n dX8_readLine_140 rfl rfl ?_
  refine pE_bipush (v := nI 59) dX8_readLine_141 rfl ?_
  refine pE_callV (d' := 7) (as := [_]) dX8_readLine_143 lkX8_97 (cwX8_readSign _ _) ivX8_readSign ⟨_, rfl, rfl⟩ (by first | assumption | rfl) rfl rfl (Nat.le_of_ble_eq_true rfl) (by decide) pKK ?_
  refine M_X8_readSign (hT.L ho hx) hr1 (by omega) (fun I2 J2 x1 y1 z1 => ?_)
  refine pE_vret dX8_readLine_146 rfl rfl ?_
  refine hq I2 J2 (hx.tr x1.L) (jx.tr y1.l) z1 (fun q hh => ?_)
  obtain ⟨q1, h1⟩ := (leR.g (B := B) (n := n) (i := 59) (s := (ln1 B n p false D).1) q hh)
  exact (hc q1 h1.1).r2 ho x1 y1
set_option maxHeartbeats 400000 in
set_option maxRecDepth 100000 in
theorem L_X8_line135 {l : Launch} {X : pX} {t g : Nat} {I : pHI} {J : pHJ} {Q : pQ} {n o p : Nat} {B : Nat → Nat} {D : pDt} (ho : isH o) (hT : tpC I n B) (hr : cRd B n I J (.inr p)) (hD : cDt o I J D) (hrD : rDt D) (hz : zF D) (h3 : ¬ tkWb B n p 3 = true) (h10 : ¬ (tkWb B n p 10 = true ∧ D.2.2.1 = none)) (h17 : ¬ (tkWb B n p 17 = true ∧ D.2.2.2.1 = none)) (h18 : ¬ (tkWb B n p 18 = true ∧ D.2.2.2.2 = false)) (hq : ∀ I1 J1, sRL o I I1 → jL J J1 → cRd B n I1 J1 (lnL B n p false D).1 → (∀ q, (lnL B n p false D).1 = .inr q → cDt o I1 J1 (lnL B n p false D).2) → Q none I1 J1 (pR t g)) : pE l X mX8_readLine 72 pK 135 [some (.ref 2), some (.ref o)] [] pK I J (pR t g) Q := by
  obtain ⟨fHho0, fHho1, fHho2, fHho3, fHho4, fHho5, fHho6, fHho7, fHho8, fHho9, fHho10, fHho11, fHho12, fHho13, fHho14, fHho15, fHho16, fHho17, fHho18, fHho19, fHho20, fHho21, fHho22, fHho23, fHho24, fHho25, fHho26⟩ := HF t g ho
  have hb := isH_b ho
  have hp := hr.2.2.1
  refine pE_aload_n dX8_readLine_135 rfl rfl ?_
  refine pE_iconst (v := nI 2) dX8_readLine_136 rfl ?_
  refine pE_callV (d' := 0) (as := [_]) dX8_readLine_137 lkX8_82 (cwX8_fail _ _) ivX8_fail ⟨_, rfl, rfl⟩ (by first | assumption | rfl) rfl rfl (Nat.le_of_ble_eq_true rfl) (by decide) pKK ?_
  refine M_X8_fail hT hr (by omega) (fun I1 x1 z1 => ?_)
  exact L_X8_line140 ho hT x1.L jL.rf (by rw [ln1_0 h3 h10 h17 h18]; exact z1) (by rw [ln1_0 h3 h10 h17 h18]; exact fun q e => by cases e) hq
set_option maxHeartbeats 400000 in
set_option maxRecDepth 100000 in
theorem L_X8_line92 {l : Launch} {X : pX} {t g : Nat} {I : pHI} {J : pHJ} {Q : pQ} {n o p : Nat} {B : Nat → Nat} {D : pDt} (ho : isH o) (hT : tpC I n B) (hr : cRd B n I J (.inr p)) (hD : cDt o I J D) (hrD : rDt D) (hz : zF D) (h3 : ¬ tkWb B n p 3 = true) (h10 : ¬ (tkWb B n p 10 = true ∧ D.2.2.1 = none)) (h17 : ¬ (tkWb B n p 17 = true ∧ D.2.2.2.1 = none)) (hq : ∀ I1 J1, sRL o I I1 → jL J J1 → cRd B n I1 J1 (lnL B n p false D).1 → (∀ q, (lnL B n p false D).1 = .inr q → cDt o I1 J1 (lnL B n p false D).2) → Q none I1 J1 (pR t g)) : pE l X mX8_readLine 72 pK 92 [some (.ref 2), some (.ref o)] [] pK I J (pR t g) Q := by
  obtain ⟨fHho0, fHho1, fHho2, fHho3, fHho4, fHho5, fHho6, fHho7, fHho8, fHho9, fHho10, fHho11, fHho12, fHho13, fHho14, fHho15, fHho16, fHho17, fHho18, fHho19, fHho20, fHho21, fHho22, fHho23, fHho24, fHho25, fHho26⟩ := HF t g ho
  have hb := isH_b ho
  have hp := hr.2.2.1
  refine pE_aload_n dX8_readLine_92 rfl rfl ?_
  refine pE_getR dX8_readLine_93 flX8_40 rfl (by first | assumption | rfl) (by first | assumption | rfl) ?_
  refine pE_ldcS (i := 18) dX8_readLine_96 rfl ?_
  refine pE_callV (d' := 4) (as := [_]) dX8_readLine_98 lkX8_102 (cwX10_isWord _ _) ivX10_isWord ⟨_, rfl, rfl⟩ (by first | assumption | rfl) rfl rfl (Nat.le_of_ble_eq_true rfl) (by decide) pKK ?_
  refine M_X10_isWord (by decide) (fun z1 z2 => ?_) (fun z => ?_)
  · have w18 : tkWb B n p 18 = true := tkWb_i.mpr ((hr.2.2.2.2.word hp (show 18 ∈ ownI by decide)).mp ⟨z1, z2⟩)
    refine pE_if_eq_f (tgt := 135) dX8_readLine_101 (by decide) nI_1n0 ?_
    have hdr := hD.2.2.2.2.2.1
    by_cases h18 : D.2.2.2.2 = false
    · rw [if_pos h18] at hdr
      refine pE_aload_n dX8_readLine_104 rfl rfl ?_
      refine pE_getI dX8_readLine_105 flX8_26 rfl (Or.inr rfl) (by first | assumption | rfl) ?_
      rw [hdr]
      refine pE_if_ne (tgt := 135) dX8_readLine_108 (by decide) (fun h108 => ?_) (fun h108 => ?_)
      · have g108 := nq_ne0 (by omega) h108
        omega
      · have g108 := nq_eq0 (by omega) h108
        refine pE_aload_n dX8_readLine_111 rfl rfl ?_
        refine pE_iconst (v := nI 1) dX8_readLine_112 rfl ?_
        refine pE_putB dX8_readLine_113 flX8_26 ftX8 fiX8_5 rfl rfl (by first | assumption | rfl) (by first | exact Or.inl nI_0 | exact Or.inr nI_1' | assumption) ?_
        refine pE_aload_n dX8_readLine_116 rfl rfl ?_
        refine pE_callV (d' := 6) (as := []) dX8_readLine_117 lkX8_85 (cwX8_step _ _) ivX8_step ⟨_, rfl, rfl⟩ (by first | assumption | rfl) rfl rfl (Nat.le_of_ble_eq_true rfl) (by decide) pKK ?_
        refine M_X8_stepR ((hT.L ho (sRL.rf.h2 (by omega)))) (hr.fr (fun k => by rw [pu_ne _ _ _ (by omega)]) (by rw [pu_at, if_neg (by omega)]) (by rw [pu_at, if_neg (by omega)])) (fun I1 J1 x1 y1 z1 => ?_)
        have z1 : cRd B n I1 J1 (stp B n p) := z1
        refine pE_aload_n dX8_readLine_120 rfl rfl ?_
        refine pE_aload_n dX8_readLine_121 rfl rfl ?_
        refine pE_iconst (v := nI 0) dX8_readLine_122 rfl ?_
        refine pE_sipush (v := nI 999) dX8_readLine_123 rfl ?_
        refine pE_callV (d' := 7) (as := [_, _]) dX8_readLine_126 lkX8_86 (cwX8_readNumber _ _) ivX8_readNumber ⟨_, rfl, rfl⟩ (by first | assumption | rfl) rfl rfl (Nat.le_of_ble_eq_true rfl) (by decide) pKK ?_
        refine M_X8_readNumber ((hT.L ho (sRL.rf.h2 (by omega))).L ho x1.L) z1 (lo := 0) (hi := 999) (by omega) (by omega) (fun I2 J2 x x2 y2 z2 w2 => ?_)
        refine pE_putI dX8_readLine_129 flX8_123 ftX2 fiX2_10 rfl rfl (by first | assumption | rfl) ?_
        refine pE_goto (tgt := 140) dX8_readLine_132 (by decide) ?_
        have hfr : ∀ c k, ¬ (c = 4 ∧ 2 ≤ k) → ¬ (c = 2 ∧ (k = 5 ∨ 6 ≤ k)) → ¬ (c = o ∧ k = 10) → pu I2 o 10 x c k = I c k := fun c k q1 q2 q3 => by
          rw [pu_at, if_neg q3, x2 c k q1 (fun z => q2 ⟨z.1, Or.inr z.2⟩), x1 c k q1 (fun z => q2 ⟨z.1, Or.inr z.2⟩), pu_at, if_neg (fun z => q2 ⟨z.1, Or.inl z.2⟩)]
        refine L_X8_line140 (D := D) ho hT ((((sRL.rf.h2 (by omega)).tr x1.L).tr x2.L).hp (by omega)) ((y1.tr y2).l) (by rw [ln1_D w18 h18]; exact z2.ho ho (by omega)) ?_ hq
        rw [ln1_D w18 h18]
        intro q e
        obtain ⟨a, b, c, d, e2, f, k⟩ := hD
        have hx0 := w2 q e
        refine ⟨?_, b.fr (hfr _ _ (by omega) (by omega) (by omega)) (fun i => hfr _ _ (by omega) (by omega) (by omega)) (fun i => hfr _ _ (by omega) (by omega) (by omega)), c.fr (hfr _ _ (by omega) (by omega) (by omega)) (fun i => hfr _ _ (by omega) (by omega) (by omega)) (fun i => hfr _ _ (by omega) (by omega) (by omega)), (hfr _ _ (by omega) (by omega) (by omega)).trans d, (hfr _ _ (by omega) (by omega) (by omega)).trans e2, ?_, (k.j4 y1).j4 y2⟩
        · rw [hx0]
          refine cH.u3 ?_
          exact a.fr (fun k hk => by rw [x2 _ _ (by omega) (by omega), x1 _ _ (by omega) (by omega), pu_ne _ _ _ (by omega)]) (fun c i h1 h2 => by rw [x2 _ _ (by omega) (by omega), x1 _ _ (by omega) (by omega), pu_ne _ _ _ (by omega)])
        · rw [pu_ne _ _ _ (by omega), x2 _ _ (by omega) (by omega), x1 _ _ (by omega) (by omega), pu_at, if_pos ⟨rfl, rfl⟩]; rfl
    · rw [if_neg h18] at hdr
      refine pE_aload_n dX8_readLine_104 rfl rfl ?_
      refine pE_getI dX8_readLine_105 flX8_26 rfl (Or.inr rfl) (by first | assumption | rfl) ?_
      rw [hdr]
      refine pE_if_ne (tgt := 135) dX8_readLine_108 (by decide) (fun h108 => ?_) (fun h108 => ?_)
      · have g108 := nq_ne0 (by omega) h108
        exact L_X8_line135 ho hT hr hD hrD hz h3 h10 h17 (fun z => h18 z.2) hq
      · have g108 := nq_eq0 (by omega) h108
        omega
  · have w18 : ¬ tkWb B n p 18 = true := fun y => z ((hr.2.2.2.2.word hp (show 18 ∈ ownI by decide)).mpr (tkWb_i.mp y))
    refine pE_if_eq_t (tgt := 135) dX8_readLine_101 (by decide) nI_0 ?_
    exact L_X8_line135 ho hT hr hD hrD hz h3 h10 h17 (fun z => w18 z.1) hq
set_option maxHeartbeats 400000 in
set_option maxRecDepth 100000 in
theorem L_X8_line56 {l : Launch} {X : pX} {t g : Nat} {I : pHI} {J : pHJ} {Q : pQ} {n o p : Nat} {B : Nat → Nat} {D : pDt} (ho : isH o) (hT : tpC I n B) (hr : cRd B n I J (.inr p)) (hD : cDt o I J D) (hrD : rDt D) (hz : zF D) (h3 : ¬ tkWb B n p 3 = true) (h10 : ¬ (tkWb B n p 10 = true ∧ D.2.2.1 = none)) (hq : ∀ I1 J1, sRL o I I1 → jL J J1 → cRd B n I1 J1 (lnL B n p false D).1 → (∀ q, (lnL B n p false D).1 = .inr q → cDt o I1 J1 (lnL B n p false D).2) → Q none I1 J1 (pR t g)) : pE l X mX8_readLine 72 pK 56 [some (.ref 2), some (.ref o)] [] pK I J (pR t g) Q := by
  obtain ⟨fHho0, fHho1, fHho2, fHho3, fHho4, fHho5, fHho6, fHho7, fHho8, fHho9, fHho10, fHho11, fHho12, fHho13, fHho14, fHho15, fHho16, fHho17, fHho18, fHho19, fHho20, fHho21, fHho22, fHho23, fHho24, fHho25, fHho26⟩ := HF t g ho
  have hb := isH_b ho
  have hp := hr.2.2.1
  refine pE_aload_n dX8_readLine_56 rfl rfl ?_
  refine pE_getR dX8_readLine_57 flX8_40 rfl (by first | assumption | rfl) (by first | assumption | rfl) ?_
  refine pE_ldcS (i := 17) dX8_readLine_60 rfl ?_
  refine pE_callV (d' := 4) (as := [_]) dX8_readLine_62 lkX8_102 (cwX10_isWord _ _) ivX10_isWord ⟨_, rfl, rfl⟩ (by first | assumption | rfl) rfl rfl (Nat.le_of_ble_eq_true rfl) (by decide) pKK ?_
  refine M_X10_isWord (by decide) (fun z1 z2 => ?_) (fun z => ?_)
  · have w17 : tkWb B n p 17 = true := tkWb_i.mpr ((hr.2.2.2.2.word hp (show 17 ∈ ownI by decide)).mp ⟨z1, z2⟩)
    refine pE_if_eq_f (tgt := 92) dX8_readLine_65 (by decide) nI_1n0 ?_
    have hdr := hD.2.2.2.2.1
    by_cases hno : D.2.2.2.1 = none
    · rw [if_pos hno] at hdr
      refine pE_aload_n dX8_readLine_68 rfl rfl ?_
      refine pE_getI dX8_readLine_69 flX8_23 rfl (Or.inr rfl) (by first | assumption | rfl) ?_
      rw [hdr]
      refine pE_if_ne (tgt := 92) dX8_readLine_72 (by decide) (fun h72 => ?_) (fun h72 => ?_)
      · have g72 := nq_ne0 (by omega) h72
        omega
      · have g72 := nq_eq0 (by omega) h72
        refine pE_aload_n dX8_readLine_75 rfl rfl ?_
        refine pE_iconst (v := nI 1) dX8_readLine_76 rfl ?_
        refine pE_putB dX8_readLine_77 flX8_23 ftX8 fiX8_4 rfl rfl (by first | assumption | rfl) (by first | exact Or.inl nI_0 | exact Or.inr nI_1' | assumption) ?_
        refine pE_aload_n dX8_readLine_80 rfl rfl ?_
        refine pE_aload_n dX8_readLine_81 rfl rfl ?_
        refine pE_aload_n dX8_readLine_82 rfl rfl ?_
        refine pE_getR dX8_readLine_83 flX8_119 rfl (by first | assumption | rfl) (by first | assumption | rfl) ?_
        refine pE_callV (d' := 71) (as := [_, _]) dX8_readLine_86 lkX8_113 (cwX8_readFormula _ _) ivX8_readFormula ⟨_, rfl, rfl⟩ (by first | assumption | rfl) rfl rfl (Nat.le_of_ble_eq_true rfl) (by decide) pKK ?_
        refine M_X8_readFormula ho (isF_m ho) (Or.inr rfl) (hT.L ho (sRL.rf.h2 (by omega))) (hr.fr (fun k => by rw [pu_ne _ _ _ (by omega)]) (by rw [pu_at, if_neg (by omega)]) (by rw [pu_at, if_neg (by omega)])) (fun I1 J1 x1 y1 z1 w1 => ?_)
        refine pE_goto (tgt := 140) dX8_readLine_89 (by decide) ?_
        refine L_X8_line140 (D := D) ho hT ((sRL.rf.h2 (k := 4) (by omega)).tr (x1.L (Or.inr rfl))) y1.l (by rw [ln1_M w17 hno]; exact z1) ?_ hq
        rw [ln1_M w17 hno]
        intro q e
        obtain ⟨a, b, c, d, e2, f, k⟩ := hD
        obtain ⟨w2, w3⟩ := w1 q e
        have hfr : ∀ c k, ¬ (c = 4 ∧ 2 ≤ k) → ¬ (c = 2 ∧ (k = 2 ∨ k = 4 ∨ 6 ≤ k)) → ¬ (c = (o + 10) ∧ k = 2) → c ≠ (o + 10) + 1 → c ≠ (o + 10) + 2 → ¬ (c = o ∧ k = 11) → I1 c k = I c k := fun c k q1 q2 q3 q4 q5 q6 => by
          rw [x1 c k q1 (fun z => q2 ⟨z.1, by omega⟩) q3 q4 q5 q6, pu_at, if_neg (fun z => q2 ⟨z.1, by omega⟩)]
        have fo := fo_r hp e
        refine ⟨?_, ?_, ?_, ?_, ?_, ?_, k.j4 y1⟩
        · refine cH.fo ho (Or.inr rfl) (a.fr (fun k hk => by rw [pu_ne _ _ _ (by omega)]) (fun c i h1 h2 => by rw [pu_ne _ _ _ (by omega)])) x1 ?_
          rw [w3, pu_ne _ _ _ (by omega), a.2.2.2.2.1, nI_add]
        · exact b.fr (hfr _ _ (by omega) (by omega) (by omega) (by omega) (by omega) (by omega)) (fun i => hfr _ _ (by omega) (by omega) (by omega) (by omega) (by omega) (by omega)) (fun i => hfr _ _ (by omega) (by omega) (by omega) (by omega) (by omega) (by omega))
        · exact w2.cF fo.2.2.1 fo.2.2.2
        · exact (hfr _ _ (by omega) (by omega) (by omega) (by omega) (by omega) (by omega)).trans d
        · rw [x1 _ _ (by omega) (by omega) (by omega) (by omega) (by omega) (by omega), pu_at, if_pos ⟨rfl, rfl⟩]; rfl
        · exact (hfr _ _ (by omega) (by omega) (by omega) (by omega) (by omega) (by omega)).trans f
    · rw [if_neg hno] at hdr
      refine pE_aload_n dX8_readLine_68 rfl rfl ?_
      refine pE_getI dX8_readLine_69 flX8_23 rfl (Or.inr rfl) (by first | assumption | rfl) ?_
      rw [hdr]
      refine pE_if_ne (tgt := 92) dX8_readLine_72 (by decide) (fun h72 => ?_) (fun h72 => ?_)
      · have g72 := nq_ne0 (by omega) h72
        exact L_X8_line92 ho hT hr hD hrD hz h3 h10 (fun z => hno z.2) hq
      · have g72 := nq_eq0 (by omega) h72
        omega
  · have w17 : ¬ tkWb B n p 17 = true := fun y => z ((hr.2.2.2.2.word hp (show 17 ∈ ownI by decide)).mpr (tkWb_i.mp y))
    refine pE_if_eq_t (tgt := 92) dX8_readLine_65 (by decide) nI_0 ?_
    exact L_X8_line92 ho hT hr hD hrD hz h3 h10 (fun z => w17 z.1) hq
set_option maxHeartbeats 400000 in
set_option maxRecDepth 100000 in
theorem L_X8_line20 {l : Launch} {X : pX} {t g : Nat} {I : pHI} {J : pHJ} {Q : pQ} {n o p : Nat} {B : Nat → Nat} {D : pDt} (ho : isH o) (hT : tpC I n B) (hr : cRd B n I J (.inr p)) (hD : cDt o I J D) (hrD : rDt D) (hz : zF D) (h3 : ¬ tkWb B n p 3 = true) (hq : ∀ I1 J1, sRL o I I1 → jL J J1 → cRd B n I1 J1 (lnL B n p false D).1 → (∀ q, (lnL B n p false D).1 = .inr q → cDt o I1 J1 (lnL B n p false D).2) → Q none I1 J1 (pR t g)) : pE l X mX8_readLine 72 pK 20 [some (.ref 2), some (.ref o)] [] pK I J (pR t g) Q := by
  obtain ⟨fHho0, fHho1, fHho2, fHho3, fHho4, fHho5, fHho6, fHho7, fHho8, fHho9, fHho10, fHho11, fHho12, fHho13, fHho14, fHho15, fHho16, fHho17, fHho18, fHho19, fHho20, fHho21, fHho22, fHho23, fHho24, fHho25, fHho26⟩ := HF t g ho
  have hb := isH_b ho
  have hp := hr.2.2.1
  refine pE_aload_n dX8_readLine_20 rfl rfl ?_
  refine pE_getR dX8_readLine_21 flX8_40 rfl (by first | assumption | rfl) (by first | assumption | rfl) ?_
  refine pE_ldcS (i := 10) dX8_readLine_24 rfl ?_
  refine pE_callV (d' := 4) (as := [_]) dX8_readLine_26 lkX8_102 (cwX10_isWord _ _) ivX10_isWord ⟨_, rfl, rfl⟩ (by first | assumption | rfl) rfl rfl (Nat.le_of_ble_eq_true rfl) (by decide) pKK ?_
  refine M_X10_isWord (by decide) (fun z1 z2 => ?_) (fun z => ?_)
  · have w10 : tkWb B n p 10 = true := tkWb_i.mpr ((hr.2.2.2.2.word hp (show 10 ∈ ownI by decide)).mp ⟨z1, z2⟩)
    refine pE_if_eq_f (tgt := 56) dX8_readLine_29 (by decide) nI_1n0 ?_
    have hdr := hD.2.2.2.1
    by_cases hno : D.2.2.1 = none
    · rw [if_pos hno] at hdr
      refine pE_aload_n dX8_readLine_32 rfl rfl ?_
      refine pE_getI dX8_readLine_33 flX8_19 rfl (Or.inr rfl) (by first | assumption | rfl) ?_
      rw [hdr]
      refine pE_if_ne (tgt := 56) dX8_readLine_36 (by decide) (fun h36 => ?_) (fun h36 => ?_)
      · have g36 := nq_ne0 (by omega) h36
        omega
      · have g36 := nq_eq0 (by omega) h36
        refine pE_aload_n dX8_readLine_39 rfl rfl ?_
        refine pE_iconst (v := nI 1) dX8_readLine_40 rfl ?_
        refine pE_putB dX8_readLine_41 flX8_19 ftX8 fiX8_3 rfl rfl (by first | assumption | rfl) (by first | exact Or.inl nI_0 | exact Or.inr nI_1' | assumption) ?_
        refine pE_aload_n dX8_readLine_44 rfl rfl ?_
        refine pE_aload_n dX8_readLine_45 rfl rfl ?_
        refine pE_aload_n dX8_readLine_46 rfl rfl ?_
        refine pE_getR dX8_readLine_47 flX8_110 rfl (by first | assumption | rfl) (by first | assumption | rfl) ?_
        refine pE_callV (d' := 71) (as := [_, _]) dX8_readLine_50 lkX8_113 (cwX8_readFormula _ _) ivX8_readFormula ⟨_, rfl, rfl⟩ (by first | assumption | rfl) rfl rfl (Nat.le_of_ble_eq_true rfl) (by decide) pKK ?_
        refine M_X8_readFormula ho (isF_c ho) (Or.inl rfl) (hT.L ho (sRL.rf.h2 (by omega))) (hr.fr (fun k => by rw [pu_ne _ _ _ (by omega)]) (by rw [pu_at, if_neg (by omega)]) (by rw [pu_at, if_neg (by omega)])) (fun I1 J1 x1 y1 z1 w1 => ?_)
        refine pE_goto (tgt := 140) dX8_readLine_53 (by decide) ?_
        refine L_X8_line140 (D := D) ho hT ((sRL.rf.h2 (k := 3) (by omega)).tr (x1.L (Or.inl rfl))) y1.l (by rw [ln1_C w10 hno]; exact z1) ?_ hq
        rw [ln1_C w10 hno]
        intro q e
        obtain ⟨a, b, c, d, e2, f, k⟩ := hD
        obtain ⟨w2, w3⟩ := w1 q e
        have hfr : ∀ c k, ¬ (c = 4 ∧ 2 ≤ k) → ¬ (c = 2 ∧ (k = 2 ∨ k = 3 ∨ 6 ≤ k)) → ¬ (c = (o + 6) ∧ k = 2) → c ≠ (o + 6) + 1 → c ≠ (o + 6) + 2 → ¬ (c = o ∧ k = 11) → I1 c k = I c k := fun c k q1 q2 q3 q4 q5 q6 => by
          rw [x1 c k q1 (fun z => q2 ⟨z.1, by omega⟩) q3 q4 q5 q6, pu_at, if_neg (fun z => q2 ⟨z.1, by omega⟩)]
        have fo := fo_r hp e
        refine ⟨?_, ?_, ?_, ?_, ?_, ?_, k.j4 y1⟩
        · refine cH.fo ho (Or.inl rfl) (a.fr (fun k hk => by rw [pu_ne _ _ _ (by omega)]) (fun c i h1 h2 => by rw [pu_ne _ _ _ (by omega)])) x1 ?_
          rw [w3, pu_ne _ _ _ (by omega), a.2.2.2.2.1, nI_add]
        · exact w2.cF fo.2.2.1 fo.2.2.2
        · exact c.fr (hfr _ _ (by omega) (by omega) (by omega) (by omega) (by omega) (by omega)) (fun i => hfr _ _ (by omega) (by omega) (by omega) (by omega) (by omega) (by omega)) (fun i => hfr _ _ (by omega) (by omega) (by omega) (by omega) (by omega) (by omega))
        · rw [x1 _ _ (by omega) (by omega) (by omega) (by omega) (by omega) (by omega), pu_at, if_pos ⟨rfl, rfl⟩]; rfl
        · exact (hfr _ _ (by omega) (by omega) (by omega) (by omega) (by omega) (by omega)).trans e2
        · exact (hfr _ _ (by omega) (by omega) (by omega) (by omega) (by omega) (by omega)).trans f
    · rw [if_neg hno] at hdr
      refine pE_aload_n dX8_readLine_32 rfl rfl ?_
      refine pE_getI dX8_readLine_33 flX8_19 rfl (Or.inr rfl) (by first | assumption | rfl) ?_
      rw [hdr]
      refine pE_if_ne (tgt := 56) dX8_readLine_36 (by decide) (fun h36 => ?_) (fun h36 => ?_)
      · have g36 := nq_ne0 (by omega) h36
        exact L_X8_line56 ho hT hr hD hrD hz h3 (fun z => hno z.2) hq
      · have g36 := nq_eq0 (by omega) h36
        omega
  · have w10 : ¬ tkWb B n p 10 = true := fun y => z ((hr.2.2.2.2.word hp (show 10 ∈ ownI by decide)).mpr (tkWb_i.mp y))
    refine pE_if_eq_t (tgt := 56) dX8_readLine_29 (by decide) nI_0 ?_
    exact L_X8_line56 ho hT hr hD hrD hz h3 (fun z => w10 z.1) hq
set_option maxHeartbeats 400000 in
set_option maxRecDepth 100000 in
theorem M_X8_readLine {l : Launch} {X : pX} {t g : Nat} {I : pHI} {J : pHJ} {Q : pQ} {n o p : Nat} {B : Nat → Nat} {D : pDt} (ho : isH o) (hT : tpC I n B) (hr : cRd B n I J (.inr p)) (hD : cDt o I J D) (hrD : rDt D) (hz : zF D) (hq : ∀ I1 J1, sRL o I I1 → jL J J1 → cRd B n I1 J1 (lnL B n p false D).1 → (∀ q, (lnL B n p false D).1 = .inr q → cDt o I1 J1 (lnL B n p false D).2) → Q none I1 J1 (pR t g)) : pM l X yX8_readLine mX8_readLine 72 [.ref 2, .ref o] pK pK I J (pR t g) Q := by
  obtain ⟨fHho0, fHho1, fHho2, fHho3, fHho4, fHho5, fHho6, fHho7, fHho8, fHho9, fHho10, fHho11, fHho12, fHho13, fHho14, fHho15, fHho16, fHho17, fHho18, fHho19, fHho20, fHho21, fHho22, fHho23, fHho24, fHho25, fHho26⟩ := HF t g ho
  have hb := isH_b ho
  have hp := hr.2.2.1
  refine pM_of rfl (fun h => by cases h) rfl pKM (Nat.le_of_ble_eq_true rfl) ?_
  refine pE_aload_n dX8_readLine_0 rfl rfl ?_
  refine pE_getR dX8_readLine_1 flX8_40 rfl (by first | assumption | rfl) (by first | assumption | rfl) ?_
  refine pE_ldcS (i := 3) dX8_readLine_4 rfl ?_
  refine pE_callV (d' := 4) (as := [_]) dX8_readLine_6 lkX8_102 (cwX10_isWord _ _) ivX10_isWord ⟨_, rfl, rfl⟩ (by first | assumption | rfl) rfl rfl (Nat.le_of_ble_eq_true rfl) (by decide) pKK ?_
  refine M_X10_isWord (by decide) (fun z1 z2 => ?_) (fun z => ?_)
  · have w3 : tkWb B n p 3 = true := tkWb_i.mpr ((hr.2.2.2.2.word hp (show 3 ∈ ownI by decide)).mp ⟨z1, z2⟩)
    refine pE_if_eq_f (tgt := 20) dX8_readLine_9 (by decide) nI_1n0 ?_
    refine pE_aload_n dX8_readLine_12 rfl rfl ?_
    refine pE_aload_n dX8_readLine_13 rfl rfl ?_
    refine pE_callV (d' := 8) (as := [_]) dX8_readLine_14 lkX8_105 (cwX8_readTenant _ _) ivX8_readTenant ⟨_, rfl, rfl⟩ (by first | assumption | rfl) rfl rfl (Nat.le_of_ble_eq_true rfl) (by decide) pKK ?_
    refine M_X8_readTenant ho hT hr hD hrD hz w3 (fun I1 J1 x1 y1 z1 c1 => ?_)
    refine pE_goto (tgt := 140) dX8_readLine_17 (by decide) ?_
    exact L_X8_line140 ho hT x1 y1 z1 c1 hq
  · have w3 : ¬ tkWb B n p 3 = true := fun y => z ((hr.2.2.2.2.word hp (show 3 ∈ ownI by decide)).mpr (tkWb_i.mp y))
    refine pE_if_eq_t (tgt := 20) dX8_readLine_9 (by decide) nI_0 ?_
    exact L_X8_line20 ho hT hr hD hrD hz w3 hq
set_option maxHeartbeats 400000 in
set_option maxRecDepth 100000 in
theorem M_X8_isGoingOnE {l : Launch} {X : pX} {t g : Nat} {I : pHI} {J : pHJ} {Q : pQ} {f : Nat} (hf : I 2 6 = nI f) (hf2 : 1 ≤ f ∧ f ≤ 4) (hq : Q (some (.int (nI 0))) I J (pR t g)) : pM l X yX8_isGoingOn mX8_isGoingOn 0 [.ref 2] pK pK I J (pR t g) Q := by
  refine pM_of rfl (fun h => by cases h) rfl pKM (Nat.le_of_ble_eq_true rfl) ?_
  refine pE_aload_n dX8_isGoingOn_0 rfl rfl ?_
  refine pE_getI dX8_isGoingOn_1 flX8_29 rfl (Or.inl rfl) (by first | assumption | rfl) ?_
  rw [hf]
  refine pE_if_ne (tgt := 21) dX8_isGoingOn_4 (by decide) (fun h4 => ?_) (fun h4 => ?_)
  · have g4 := nq_ne0 (by omega) h4
    refine pE_iconst (v := nI 0) dX8_isGoingOn_21 rfl ?_
    refine pE_zret dX8_isGoingOn_22 rfl (by first | exact Or.inl nI_0 | exact Or.inr nI_1') rfl ?_
    exact hq
  · have g4 := nq_eq0 (by omega) h4
    omega
set_option maxHeartbeats 400000 in
set_option maxRecDepth 100000 in
theorem M_X8_isGoingOnO {l : Launch} {X : pX} {t g : Nat} {I : pHI} {J : pHJ} {Q : pQ} {n p : Nat} {B : Nat → Nat} (hr : cRd B n I J (.inr p)) (h1 : tK B n p ≠ 0 → Q (some (.int (nI 1))) I J (pR t g)) (h0 : tK B n p = 0 → Q (some (.int (nI 0))) I J (pR t g)) : pM l X yX8_isGoingOn mX8_isGoingOn 0 [.ref 2] pK pK I J (pR t g) Q := by
  have hkl := tK_le (B := B) hr.2.2.1
  refine pM_of rfl (fun h => by cases h) rfl pKM (Nat.le_of_ble_eq_true rfl) ?_
  refine pE_aload_n dX8_isGoingOn_0 rfl rfl ?_
  refine pE_getI dX8_isGoingOn_1 flX8_29 rfl (Or.inl rfl) (by first | assumption | rfl) ?_
  rw [hr.1]
  refine pE_if_ne (tgt := 21) dX8_isGoingOn_4 (by decide) (fun h4 => ?_) (fun h4 => ?_)
  · have g4 := nq_ne0 (by omega) h4
    omega
  · have g4 := nq_eq0 (by omega) h4
    refine pE_aload_n dX8_isGoingOn_7 rfl rfl ?_
    refine pE_getR dX8_isGoingOn_8 flX8_40 rfl (by first | assumption | rfl) (by first | assumption | rfl) ?_
    refine pE_getI dX8_isGoingOn_11 flX8_73 rfl (Or.inl rfl) (by first | assumption | rfl) ?_
    rw [hr.2.2.2.2.1]
    refine pE_if_eq (tgt := 21) dX8_isGoingOn_14 (by decide) (fun h14 => ?_) (fun h14 => ?_)
    · have g14 := nq_eq0 (by omega) h14
      refine pE_iconst (v := nI 0) dX8_isGoingOn_21 rfl ?_
      refine pE_zret dX8_isGoingOn_22 rfl (by first | exact Or.inl nI_0 | exact Or.inr nI_1') rfl ?_
      first | exact h1 (by omega) | exact h0 (by omega)
    · have g14 := nq_ne0 (by omega) h14
      refine pE_iconst (v := nI 1) dX8_isGoingOn_17 rfl ?_
      refine pE_goto (tgt := 22) dX8_isGoingOn_18 (by decide) ?_
      refine pE_zret dX8_isGoingOn_22 rfl (by first | exact Or.inl nI_0 | exact Or.inr nI_1') rfl ?_
      first | exact h1 (by omega) | exact h0 (by omega)
def sRd (o : Nat) (I I1 : pHI) : Prop := ∀ c k, c ≠ 4 → ¬ (c = 2 ∧ 2 ≤ k) → ¬ (o ≤ c ∧ c ≤ o + 13) → I1 c k = I c k
theorem sRL.d {o : Nat} {I I1 : pHI} (h : sRL o I I1) : sRd o I I1 := fun c k a b d => h c k (fun q => a q.1) b d
theorem sRd.tr {o : Nat} {I I1 I2 : pHI} (h1 : sRd o I I1) (h2 : sRd o I1 I2) : sRd o I I2 := fun c k a b d => (h2 c k a b d).trans (h1 c k a b d)
set_option maxHeartbeats 400000 in
set_option maxRecDepth 100000 in
theorem L_X8_readE {l : Launch} {X : pX} {t g : Nat} {I : pHI} {J : pHJ} {Q : pQ} {n o : Nat} {B : Nat → Nat} {I0 : pHI} {J0 : pHJ} {bb : Int32} {j : Nat} {e : Nat × Nat} (h1 : ∀ q I1 J1, sRd o I0 I1 → jL J0 J1 → (txt B n).1 = .inr q → cDt o I1 J1 (txt B n).2 → I1 2 6 = nI 0 → I1 2 7 = -1 → Q (some (.int (nI 1))) I1 J1 (pR t g)) (h0 : ∀ e I1 J1, sRd o I0 I1 → jL J0 J1 → (txt B n).1 = .inl e → I1 2 6 = nI e.1 → I1 2 7 = nI e.2 → (1 ≤ e.1 ∧ e.1 ≤ 4) → e.2 ≤ 1600 → Q (some (.int (nI 0))) I1 J1 (pR t g)) (hj : j ≤ 1600) (hx : sRd o I0 I) (jx : jL J0 J) (hr : cRd B n I J (.inl e)) (he : (txt B n).1 = .inl e) : pE l X mX8_read 73 pK 57 [some (.ref 2), some (.int bb), some (.ref o), some (.int (nI j))] [] pK I J (pR t g) Q := by
  have h14 := hr.2.1
  refine pE_iload_n dX8_read_57 rfl rfl ?_
  refine pE_sipush (v := nI 1600) dX8_read_58 rfl ?_
  refine pE_icmp_ge (tgt := 82) dX8_read_61 (by decide) (fun h61 => ?_) (fun h61 => ?_)
  · have g61 := nq_le (by omega) (by omega) h61
    refine pE_aload_n dX8_read_82 rfl rfl ?_
    refine pE_getI dX8_read_83 flX8_29 rfl (Or.inl rfl) (by first | assumption | rfl) ?_
    rw [hr.1]
    refine pE_if_ne (tgt := 93) dX8_read_86 (by decide) (fun h86 => ?_) (fun h86 => ?_)
    · have g86 := nq_ne0 (by omega) h86
      refine pE_iconst (v := nI 0) dX8_read_93 rfl ?_
      refine pE_zret dX8_read_94 rfl (by first | exact Or.inl nI_0 | exact Or.inr nI_1') rfl ?_
      exact h0 e I J hx jx he hr.1 hr.2.2.1 hr.2.1 hr.2.2.2
    · have g86 := nq_eq0 (by omega) h86
      omega
  · have g61 := nq_nle (by omega) (by omega) h61
    refine pE_aload_n dX8_read_64 rfl rfl ?_
    refine pE_callV (d' := 0) (as := []) dX8_read_65 lkX8_66 (cwX8_isGoingOn _ _) ivX8_isGoingOn ⟨_, rfl, rfl⟩ (by first | assumption | rfl) rfl rfl (Nat.le_of_ble_eq_true rfl) (by decide) pKK ?_
    refine M_X8_isGoingOnE hr.1 hr.2.1 ?_
    refine pE_if_eq_t (tgt := 82) dX8_read_68 (by decide) nI_0 ?_
    refine pE_aload_n dX8_read_82 rfl rfl ?_
    refine pE_getI dX8_read_83 flX8_29 rfl (Or.inl rfl) (by first | assumption | rfl) ?_
    rw [hr.1]
    refine pE_if_ne (tgt := 93) dX8_read_86 (by decide) (fun h86 => ?_) (fun h86 => ?_)
    · have g86 := nq_ne0 (by omega) h86
      refine pE_iconst (v := nI 0) dX8_read_93 rfl ?_
      refine pE_zret dX8_read_94 rfl (by first | exact Or.inl nI_0 | exact Or.inr nI_1') rfl ?_
      exact h0 e I J hx jx he hr.1 hr.2.2.1 hr.2.1 hr.2.2.2
    · have g86 := nq_eq0 (by omega) h86
      omega
set_option maxHeartbeats 400000 in
set_option maxRecDepth 100000 in
theorem L_X8_read {l : Launch} {X : pX} {t g : Nat} {I : pHI} {J : pHJ} {Q : pQ} {n o : Nat} {B : Nat → Nat} {I0 : pHI} {J0 : pHJ} {bb : Int32} (h1 : ∀ q I1 J1, sRd o I0 I1 → jL J0 J1 → (txt B n).1 = .inr q → cDt o I1 J1 (txt B n).2 → I1 2 6 = nI 0 → I1 2 7 = -1 → Q (some (.int (nI 1))) I1 J1 (pR t g)) (h0 : ∀ e I1 J1, sRd o I0 I1 → jL J0 J1 → (txt B n).1 = .inl e → I1 2 6 = nI e.1 → I1 2 7 = nI e.2 → (1 ≤ e.1 ∧ e.1 ≤ 4) → e.2 ≤ 1600 → Q (some (.int (nI 0))) I1 J1 (pR t g)) (ho : isH o) : ∀ (fu : Nat) (j : Nat) (m : Nat) (p : Nat) (D : pDt) (I1 : pHI) (J1 : pHJ), 1600 - j < fu → (j ≤ 1600) → (tpC I1 n B) → (lns B n m (.inr p) false D = txt B n) → (n < p + m ∧ p ≤ n ∧ j ≤ p) → (rDt D) → (zF D) → (sRd o I0 I1) → (jL J0 J1) → (cRd B n I1 J1 (.inr p)) → (cDt o I1 J1 D) → pE l X mX8_read 73 pK 57 [some (.ref 2), some (.int bb), some (.ref o), some (.int (nI j))] [] pK I1 J1 (pR t g) Q := by
  intro fu
  induction fu with
  | zero => intro j m p D I1 J1 hn; exact absurd hn (Nat.not_lt_zero _)
  | succ fu ih =>
    intro j m p D I1 J1 hn hj hT hl hm hrD hz hx jx hr hD
    have hn := hT.2.1
    refine pE_iload_n dX8_read_57 rfl rfl ?_
    refine pE_sipush (v := nI 1600) dX8_read_58 rfl ?_
    refine pE_icmp_ge (tgt := 82) dX8_read_61 (by decide) (fun h61 => ?_) (fun h61 => ?_)
    · have g61 := nq_le (by omega) (by omega) h61
      refine pE_aload_n dX8_read_82 rfl rfl ?_
      refine pE_getI dX8_read_83 flX8_29 rfl (Or.inl rfl) (by first | assumption | rfl) ?_
      rw [hr.1]
      refine pE_if_ne (tgt := 93) dX8_read_86 (by decide) (fun h86 => ?_) (fun h86 => ?_)
      · have g86 := nq_ne0 (by omega) h86
        omega
      · have g86 := nq_eq0 (by omega) h86
        refine pE_iconst (v := nI 1) dX8_read_89 rfl ?_
        refine pE_goto (tgt := 94) dX8_read_90 (by decide) ?_
        refine pE_zret dX8_read_94 rfl (by first | exact Or.inl nI_0 | exact Or.inr nI_1') rfl ?_
        have kz : tK B n p = 0 := by
          first
          | exact zk
          | (have ep : p = n := by omega
             rw [ep]; exact tK_end)
        rw [lns_z kz] at hl
        exact h1 p I1 J1 hx jx (by rw [← hl]) (by rw [← hl]; exact hD) hr.1 hr.2.1
    · have g61 := nq_nle (by omega) (by omega) h61
      refine pE_aload_n dX8_read_64 rfl rfl ?_
      refine pE_callV (d' := 0) (as := []) dX8_read_65 lkX8_66 (cwX8_isGoingOn _ _) ivX8_isGoingOn ⟨_, rfl, rfl⟩ (by first | assumption | rfl) rfl rfl (Nat.le_of_ble_eq_true rfl) (by decide) pKK ?_
      refine M_X8_isGoingOnO hr (fun zk => ?_) (fun zk => ?_)
      · refine pE_if_eq_f (tgt := 82) dX8_read_68 (by decide) nI_1n0 ?_
        refine pE_aload_n dX8_read_71 rfl rfl ?_
        refine pE_aload_n dX8_read_72 rfl rfl ?_
        refine pE_callV (d' := 72) (as := [_]) dX8_read_73 lkX8_70 (cwX8_readLine _ _) ivX8_readLine ⟨_, rfl, rfl⟩ (by first | assumption | rfl) rfl rfl (Nat.le_of_ble_eq_true rfl) (by decide) pKK ?_
        refine M_X8_readLine ho hT hr hD hrD hz (fun I2 J2 x1 y1 z1 c1 => ?_)
        refine pE_iincN (c0 := 1) (lc' := [_, _, _, some (.int _)]) dX8_read_76 rfl rfl rfl rfl ?_
        refine pE_goto (tgt := 57) dX8_read_79 (by decide) ?_
        obtain ⟨m, rfl⟩ : ∃ m', m = m' + 1 := ⟨m - 1, by omega⟩
        rw [lns_s zk] at hl
        cases e : (lnL B n p false D).1 with
        | inl a =>
          rw [e] at hl z1
          rw [lns_e] at hl
          exact L_X8_readE h1 h0 (by omega) (hx.tr x1.d) (jx.tr y1) z1 (by rw [← hl])
        | inr r =>
          have k := lnL_lt hm.2.1 e
          have kr := lnL_r hm.2.1 hrD (fun z => by cases z) e
          have hc := c1 r e
          rw [e] at hl z1
          exact ih (j + 1) m r _ I2 J2 (by omega) (by omega) (hT.L ho x1) hl ⟨by omega, k.1, by omega⟩ kr (ln1_z hz) (hx.tr x1.d) (jx.tr y1) z1 hc
      · refine pE_if_eq_t (tgt := 82) dX8_read_68 (by decide) nI_0 ?_
        refine pE_aload_n dX8_read_82 rfl rfl ?_
        refine pE_getI dX8_read_83 flX8_29 rfl (Or.inl rfl) (by first | assumption | rfl) ?_
        rw [hr.1]
        refine pE_if_ne (tgt := 93) dX8_read_86 (by decide) (fun h86 => ?_) (fun h86 => ?_)
        · have g86 := nq_ne0 (by omega) h86
          omega
        · have g86 := nq_eq0 (by omega) h86
          refine pE_iconst (v := nI 1) dX8_read_89 rfl ?_
          refine pE_goto (tgt := 94) dX8_read_90 (by decide) ?_
          refine pE_zret dX8_read_94 rfl (by first | exact Or.inl nI_0 | exact Or.inr nI_1') rfl ?_
          have kz : tK B n p = 0 := by
            first
            | exact zk
            | (have ep : p = n := by omega
               rw [ep]; exact tK_end)
          rw [lns_z kz] at hl
          exact h1 p I1 J1 hx jx (by rw [← hl]) (by rw [← hl]; exact hD) hr.1 hr.2.1
set_option maxHeartbeats 400000 in
set_option maxRecDepth 100000 in
theorem M_X8_read {l : Launch} {X : pX} {t g : Nat} {I : pHI} {J : pHJ} {Q : pQ} {n o : Nat} {B : Nat → Nat} (ho : isH o) (hn : n ≤ 1600) (hB : ∀ i, i < n → I 1 i &&& 255 = nI (B i) ∧ B i < 256) (h1 : ∀ q I1 J1, sRd o I I1 → jL J J1 → (txt B n).1 = .inr q → cDt o I1 J1 (txt B n).2 → I1 2 6 = nI 0 → I1 2 7 = -1 → Q (some (.int (nI 1))) I1 J1 (pR t g)) (h0 : ∀ e I1 J1, sRd o I I1 → jL J J1 → (txt B n).1 = .inl e → I1 2 6 = nI e.1 → I1 2 7 = nI e.2 → (1 ≤ e.1 ∧ e.1 ≤ 4) → e.2 ≤ 1600 → Q (some (.int (nI 0))) I1 J1 (pR t g)) : pM l X yX8_read mX8_read 73 [.ref 2, .int (nI n), .ref o] pK pK I J (pR t g) Q := by
  obtain ⟨fHho0, fHho1, fHho2, fHho3, fHho4, fHho5, fHho6, fHho7, fHho8, fHho9, fHho10, fHho11, fHho12, fHho13, fHho14, fHho15, fHho16, fHho17, fHho18, fHho19, fHho20, fHho21, fHho22, fHho23, fHho24, fHho25, fHho26⟩ := HF t g ho
  have hb := isH_b ho
  refine pM_of rfl (fun h => by cases h) rfl pKM (Nat.le_of_ble_eq_true rfl) ?_
  refine pE_aload_n dX8_read_0 rfl rfl ?_
  refine pE_callV (d' := 2) (as := []) dX8_read_1 lkX8_44 (cwX2_clear _ _) ivX2_clear ⟨_, rfl, rfl⟩ (by first | assumption | rfl) rfl rfl (Nat.le_of_ble_eq_true rfl) (by decide) pKK ?_
  refine M_X2_clear ho (fun I1 x1 c1 f1 f2 => ?_)
  refine pE_aload_n dX8_read_4 rfl rfl ?_
  refine pE_iconst (v := nI 0) dX8_read_5 rfl ?_
  refine pE_putB dX8_read_6 flX8_19 ftX8 fiX8_3 rfl rfl (by first | assumption | rfl) (by first | exact Or.inl nI_0 | exact Or.inr nI_1' | assumption) ?_
  refine pE_aload_n dX8_read_9 rfl rfl ?_
  refine pE_iconst (v := nI 0) dX8_read_10 rfl ?_
  refine pE_putB dX8_read_11 flX8_23 ftX8 fiX8_4 rfl rfl (by first | assumption | rfl) (by first | exact Or.inl nI_0 | exact Or.inr nI_1' | assumption) ?_
  refine pE_aload_n dX8_read_14 rfl rfl ?_
  refine pE_iconst (v := nI 0) dX8_read_15 rfl ?_
  refine pE_putB dX8_read_16 flX8_26 ftX8 fiX8_5 rfl rfl (by first | assumption | rfl) (by first | exact Or.inl nI_0 | exact Or.inr nI_1' | assumption) ?_
  refine pE_aload_n dX8_read_19 rfl rfl ?_
  refine pE_iconst (v := nI 0) dX8_read_20 rfl ?_
  refine pE_putI dX8_read_21 flX8_29 ftX8 fiX8_6 rfl rfl (by first | assumption | rfl) ?_
  refine pE_aload_n dX8_read_24 rfl rfl ?_
  refine pE_iconst (v := -1) dX8_read_25 rfl ?_
  refine pE_putI dX8_read_26 flX8_32 ftX8 fiX8_7 rfl rfl (by first | assumption | rfl) ?_
  have hB1 : ∀ i, i < n → (pu (pu (pu (pu (pu I1 2 3 (nI 0)) 2 4 (nI 0)) 2 5 (nI 0)) 2 6 (nI 0)) 2 7 (-1)) 1 i &&& 255 = nI (B i) ∧ B i < 256 := fun i hi => by
    rw [pu_ne _ _ _ (by omega), pu_ne _ _ _ (by omega), pu_ne _ _ _ (by omega), pu_ne _ _ _ (by omega), pu_ne _ _ _ (by omega), x1 1 i (by omega)]; exact hB i hi
  refine pE_aload_n dX8_read_29 rfl rfl ?_
  refine pE_getR dX8_read_30 flX8_40 rfl (by first | assumption | rfl) (by first | assumption | rfl) ?_
  refine pE_iload_n dX8_read_33 rfl rfl ?_
  refine pE_callV (d' := 6) (as := [_]) dX8_read_34 lkX8_49 (cwX10_start _ _) ivX10_start ⟨_, rfl, rfl⟩ (by first | assumption | rfl) rfl rfl (Nat.le_of_ble_eq_true rfl) (by decide) pKK ?_
  refine M_X10_start hn hB1 (fun I2 J2 x2 y2 t2 k2 => ?_)
  refine pE_aload_n dX8_read_37 rfl rfl ?_
  refine pE_callV (d' := 1) (as := []) dX8_read_38 lkX8_53 (cwX8_lookForToken _ _) ivX8_lookForToken ⟨_, rfl, rfl⟩ (by first | assumption | rfl) rfl rfl (Nat.le_of_ble_eq_true rfl) (by decide) pKK ?_
  refine M_X8_lookForToken t2 (Nat.zero_le n) (by rw [x2 _ _ (by omega), pu_at, if_neg (by omega), pu_at, if_pos ⟨rfl, rfl⟩]) (by rw [x2 _ _ (by omega), pu_at, if_pos ⟨rfl, rfl⟩]) k2 (fun I3 x3 z3 => ?_)
  have z3 : cRd B n I3 J2 (sOf B n 0) := z3
  have g3 : ∀ c k, c ≠ 4 → ¬ (c = 2 ∧ 6 ≤ k) → I3 c k = (pu (pu (pu (pu (pu I1 2 3 (nI 0)) 2 4 (nI 0)) 2 5 (nI 0)) 2 6 (nI 0)) 2 7 (-1)) c k := fun c k q1 q2 => by rw [x3 c k (fun z => q1 z.1) q2, x2 c k q1]
  have hD3 : cDt o I3 J2 D0 := by
    refine ⟨c1.fr (fun k _ => ?_) (fun c i _ _ => ?_), f1.fr ?_ (fun i => ?_) (fun i => ?_), f2.fr ?_ (fun i => ?_) (fun i => ?_), ?_, ?_, ?_, fun k w e => by cases e⟩
    all_goals first
    | (rw [g3 _ _ (by omega) (by omega), pu_ne _ _ _ (by omega), pu_ne _ _ _ (by omega), pu_ne _ _ _ (by omega), pu_ne _ _ _ (by omega), pu_ne _ _ _ (by omega)])
    | (rw [g3 _ _ (by omega) (by omega), pu_at, if_neg (by omega), pu_at, if_neg (by omega), pu_at, if_neg (by omega), pu_at, if_neg (by omega), pu_at, if_pos ⟨rfl, rfl⟩]; rfl)
    | (rw [g3 _ _ (by omega) (by omega), pu_at, if_neg (by omega), pu_at, if_neg (by omega), pu_at, if_neg (by omega), pu_at, if_pos ⟨rfl, rfl⟩]; rfl)
    | (rw [g3 _ _ (by omega) (by omega), pu_at, if_neg (by omega), pu_at, if_neg (by omega), pu_at, if_pos ⟨rfl, rfl⟩]; rfl)
  have hx3 : sRd o I I3 := fun c k q1 q2 q3 => by
    rw [g3 c k q1 (fun z => q2 ⟨z.1, by omega⟩), pu_at, if_neg (fun z => q2 (by omega)), pu_at, if_neg (fun z => q2 (by omega)), pu_at, if_neg (fun z => q2 (by omega)), pu_at, if_neg (fun z => q2 (by omega)), pu_at, if_neg (fun z => q2 (by omega)), x1 c k q3]
  refine pE_aload_n dX8_read_41 rfl rfl ?_
  refine pE_ldcS (i := 1) dX8_read_42 rfl ?_
  refine pE_callV (d' := 5) (as := [_]) dX8_read_44 lkX8_58 (cwX8_isNext _ _) ivX8_isNext ⟨_, rfl, rfl⟩ (by first | assumption | rfl) rfl rfl (Nat.le_of_ble_eq_true rfl) (by decide) pKK ?_
  refine M_X8_isNext z3 (show 1 ∈ ownI by decide) (fun zs => ?_) (fun zs => ?_)
  · have hs0 : sOf B n 0 = .inr 0 := by
      unfold sOf
      split
      · rename_i z; rw [sOf, if_pos z] at zs; cases zs
      · rfl
    have zw : tkWb B n 0 1 = true := by rw [hs0] at zs; exact zs
    rw [hs0] at z3
    refine pE_if_eq_f (tgt := 55) dX8_read_47 (by decide) nI_1n0 ?_
    refine pE_aload_n dX8_read_50 rfl rfl ?_
    refine pE_aload_n dX8_read_51 rfl rfl ?_
    refine pE_callV (d' := 8) (as := [_]) dX8_read_52 lkX8_62 (cwX8_readStoreys _ _) ivX8_readStoreys ⟨_, rfl, rfl⟩ (by first | assumption | rfl) rfl rfl (Nat.le_of_ble_eq_true rfl) (by decide) pKK ?_
    refine M_X8_readStoreys ho (t2.L ho x3.L) z3 hD3 rfl (fun I4 J4 x4 y4 z4 c4 => ?_)
    refine pE_iconst (v := nI 0) dX8_read_55 rfl ?_
    refine pE_istore_n (lc' := [_, _, _, some (.int _)]) dX8_read_56 rfl (Nat.le_of_ble_eq_true rfl) rfl rfl ?_
    have hT4 := (t2.L ho x3.L).L ho x4
    have hln : ln1 B n 0 true D0 = stL B n 0 D0 := by unfold ln1; rw [if_pos ⟨zw, rfl⟩]
    have hlt : txt B n = lns B n n (nxG B n 59 (stL B n 0 D0).1) false (stL B n 0 D0).2 := by
      unfold txt
      rw [hs0, lns_s (by have := tkWb_k zw; omega), lnL, hln]
    have hlz : zF (stL B n 0 D0).2 := by rw [← hln]; exact ln1_z (fun j _ hj => H9_0 (by omega))
    cases e : nxG B n 59 (stL B n 0 D0).1 with
    | inl a =>
      rw [e] at hlt z4
      rw [lns_e] at hlt
      exact L_X8_readE h1 h0 (by omega) (hx3.tr x4.d) (y2.l.tr y4) z4 (by rw [hlt])
    | inr r =>
      have e2 : (lnL B n 0 true D0).1 = .inr r := by rw [lnL, hln]; exact e
      have k := lnL_lt (Nat.zero_le n) e2
      have kr := lnL_r (Nat.zero_le n) D0_r.1 (fun _ => D0_r.2) e2
      rw [lnL, hln] at kr
      have hc := c4 r e
      rw [e] at hlt z4
      exact L_X8_read (I := I) (J := J) h1 h0 ho 1601 0 n r _ _ _ (by omega) (by omega) hT4 hlt.symm ⟨by omega, k.1, by omega⟩ kr hlz (hx3.tr x4.d) (y2.l.tr y4) z4 hc
  · refine pE_if_eq_t (tgt := 55) dX8_read_47 (by decide) nI_0 ?_
    refine pE_iconst (v := nI 0) dX8_read_55 rfl ?_
    refine pE_istore_n (lc' := [_, _, _, some (.int _)]) dX8_read_56 rfl (Nat.le_of_ble_eq_true rfl) rfl rfl ?_
    have hT4 := t2.L ho x3.L
    by_cases k1 : tK B n 0 = 1
    · have e1 : sOf B n 0 = .inl (1, tQ B n 0) := by unfold sOf; rw [if_pos k1]
      rw [e1] at z3
      exact L_X8_readE h1 h0 (by omega) hx3 y2.l z3 (by unfold txt; rw [e1, lns_e])
    · have e1 : sOf B n 0 = .inr 0 := by unfold sOf; rw [if_neg k1]
      rw [e1] at z3 zs
      have zw : ¬ tkWb B n 0 1 = true := zs
      have hlt : lns B n (n + 1) (.inr 0) false D0 = txt B n := by
        unfold txt
        rw [e1]
        by_cases k0 : tK B n 0 = 0
        · rw [lns_z k0, lns_z k0]
        · rw [lns_s k0, lns_s k0, lnL, lnL, ln1_b zw]
      exact L_X8_read (I := I) (J := J) h1 h0 ho 1601 0 (n + 1) 0 D0 _ _ (by omega) (by omega) hT4 hlt ⟨by omega, Nat.zero_le n, by omega⟩ D0_r.1 (fun j _ hj => H9_0 (by omega)) hx3 y2.l z3 hD3
