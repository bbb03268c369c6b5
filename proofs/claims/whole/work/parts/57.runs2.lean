theorem mk_hv {M : pMk} {k : Int32} {m w o lh b hv st lo hi : Nat} (h : mkS M k m w o lh b) (h9 : hv ≤ 9) (hr : runP M k m hv st lo hi) : lh ≤ hv ∧ hv < b := by
  obtain ⟨-, -, ⟨l1, l2⟩, ⟨b1, b2⟩⟩ := h
  rw [l2 hv, b2 hv]
  refine ⟨fun x hx hc e1 e2 => ?_, by omega, fun x hx hc e1 e2 => ?_⟩
  · have := hr.2 x hx hc
    unfold okM at this
    rw [e1, e2, if_neg (by decide)] at this
    exact this.mp rfl
  · have := hr.2 x hx hc
    unfold okM at this
    rw [e1, e2, if_neg (by decide)] at this
    exact fun c => absurd (this.mpr c) (by decide)
theorem rn_zero {M : pMk} {k : Int32} {m w o lh b j : Nat} {H : pN} (h : mkS M k m w o lh b) (h9 : H (24 + j) ≤ 9) (hn : ¬ (lh ≤ H (24 + j) ∧ H (24 + j) < b)) : rnN M k m H j = 0 ∧ ∀ s, rnW M k m H s j = 0 := by
  have hf : ∀ x y, rnF M k m H j x y = false := fun x y => dcd_f (fun c => hn (mk_hv h h9 c))
  exact ⟨c2_zero _ hf, fun s => c2_zero _ (fun x y => by unfold wiB; rw [hf]; rfl)⟩
noncomputable def runR (M : pMk) (k : Int32) (m : Nat) (H : pN) : Nat := sumN (rnN M k m H) (H 1)
noncomputable def runY (M : pMk) (k : Int32) (m : Nat) (H : pN) (s : Nat) : Nat := sumN (rnW M k m H s) (H 1)
noncomputable def runS (M : pMk) (k : Int32) (m : Nat) (H : pN) : Int32 := setI (fun j => decide (0 < rnN M k m H j)) (H 1)
theorem runR_le (M : pMk) (k : Int32) (m : Nat) {H : pN} (h8 : H 1 ≤ 8) (h20 : H 0 ≤ 20) : runR M k m H ≤ 3200 := by
  have := sumN_le (f := rnN M k m H) (B := 400) (H 1) (fun j _ => rn_le M k m h20 j)
  unfold runR
  omega
theorem runY_le (M : pMk) (k : Int32) (m : Nat) (H : pN) (s : Nat) : runY M k m H s ≤ runR M k m H := sumN_mono (fun j => rnW_le M k m H s j) _
def lsF (f : Nat → Nat) (d : Nat) : Option Nat → Nat
  | none => d
  | some b => f b
def askA (f : Nat → Nat) (o : Option Nat) (w : Nat) : Int32 := match o with
  | none => -1
  | some b => if w = 0 then nI b else nI (f b)
noncomputable def askF (M : pMk) (k : Int32) (m : Nat) (H : pN) : Nat → Nat := mxL (runR M k m H) (runY M k m H)
theorem askF_le (M : pMk) (k : Int32) (m : Nat) (H : pN) (s : Nat) : askF M k m H s ≤ runR M k m H := by
  have := runY_le M k m H s
  unfold askF mxL
  omega
set_option maxHeartbeats 400000 in
set_option maxRecDepth 100000 in
theorem L2_X0_look {l : Launch} {X : pX} {t g : Nat} {I : pHI} {J : pHJ} {Q : pQ} {o w w2 lh b : Nat} {k : Int32} {m : Nat} {M : pMk} {H : pN} (ho : isH o) (hH : cH o H I) (hr : rH H) (hs : mkS M k m w w2 lh b) (hq : ∀ I1, sC I I1 → I1 47 11 = nI (runR M k m H) → I1 47 12 = runS M k m H → (∀ s, s ≤ 20 → I1 53 s = nI (runY M k m H s)) → Q none I1 J (pR t g)) : ∀ (fu : Nat) (j : Nat) (I1 : pHI), H 1 - j < fu → (j ≤ H 1) → (sC I I1) → (mkI I1 w w2 lh b) → (I1 47 11 = nI (sumN (rnN M k m H) j)) → (I1 47 12 = setI (fun j => decide (0 < rnN M k m H j)) j) → (∀ s, s ≤ 20 → I1 53 s = nI (sumN (rnW M k m H s) j)) → pE l X mX0_look 3 pK 38 [some (.ref 47), some (.ref o), some (.int k), some (.int (nI j))] [] pK I1 J (pR t g) Q := by
  obtain ⟨fHFho0, fHFho1, fHFho2, fHFho3, fHFho4, fHFho5, fHFho6, fHFho7, fHFho8, fHFho9, fHFho10, fHFho11, fHFho12, fHFho13, fHFho14, fHFho15, fHFho16, fHFho17, fHFho18, fHFho19, fHFho20, fHFho21, fHFho22, fHFho23, fHFho24, fHFho25, fHFho26⟩ := HF t g ho
  intro fu
  induction fu with
  | zero => intro j I1 hn; exact absurd hn (Nat.not_lt_zero _)
  | succ fu ih =>
    intro j I1 hn hj hf hI hR hS hY
    have hn8 := hr.2.1
    have hn20 := hr.1.2
    have hH1 := hH.sC ho hf
    have hl9 := hs.2.2.1.1
    have hb10 := hs.2.2.2.1
    refine pE_iload_n dX0_look_38 rfl rfl ?_
    refine pE_aload_n dX0_look_39 rfl rfl ?_
    refine pE_getI dX0_look_40 flX0_61 rfl (Or.inl rfl) (by first | assumption | rfl) ?_
    rw [hH1.2.2.1]
    refine pE_icmp_ge (tgt := 84) dX0_look_43 (by decide) (fun h43 => ?_) (fun h43 => ?_)
    · have g43 := nq_le (by omega) (by omega) h43
      refine pE_vret dX0_look_84 rfl rfl ?_
      obtain rfl : j = H 1 := by omega
      exact hq _ hf hR hS hY
    · have g43 := nq_nle (by omega) (by omega) h43
      have hv9 := (hr.2.2.2.2 j (by omega)).2.2.1
      refine pE_aload_n dX0_look_46 rfl rfl ?_
      refine pE_getR dX0_look_47 flX0_66 rfl (by first | assumption | rfl) (by first | assumption | rfl) ?_
      refine pE_iload_n dX0_look_50 rfl rfl ?_
      refine pE_ialoadN dX0_look_51 (by first | assumption | rfl) (by first | assumption | omega) (by omega) ?_
      rw [(hH1.2.2.2.2.2 j (by omega)).2.2.1]
      refine pE_aload_n dX0_look_52 rfl rfl ?_
      refine pE_getI dX0_look_53 flX0_41 rfl (Or.inl rfl) (by first | assumption | rfl) ?_
      rw [hI.2.2.1]
      refine pE_icmp_lt (tgt := 78) dX0_look_56 (by decide) (fun h56 => ?_) (fun h56 => ?_)
      · have g56 := nq_lt (by omega) (by omega) h56
        refine pE_iincN (c0 := 1) (lc' := [_, _, _, some (.int _)]) dX0_look_78 rfl rfl rfl rfl ?_
        refine pE_goto (tgt := 38) dX0_look_81 (by decide) ?_
        first
        | (have hz := rn_zero (j := j) hs hv9 (fun c => by omega)
           refine ih (j + 1) I1 (by omega) (by omega) hf hI (by rw [hR]; simp only [sumN, hz.1, Nat.add_zero]) (by rw [hS]; simp only [setI, hz.1]; simp) (fun s hs2 => by rw [hY s hs2]; simp only [sumN, hz.2 s, Nat.add_zero]))
        | (refine ih (j + 1) I2 (by omega) (by omega) (hf.tr f2) i2 r2 (s2.trans ?_) y2
           show _ = setI (fun j => decide (0 < rnN M k m H j)) (j + 1)
           simp only [setI, decide_eq_true_eq]
           show (if rnN M k m H j = 0 then _ else _) = _
           by_cases c : rnN M k m H j = 0
           · rw [if_pos c, if_neg (by omega)]
           · rw [if_neg c, if_pos (by omega)])
      · have g56 := nq_nlt (by omega) (by omega) h56
        refine pE_aload_n dX0_look_59 rfl rfl ?_
        refine pE_getR dX0_look_60 flX0_66 rfl (by first | assumption | rfl) (by first | assumption | rfl) ?_
        refine pE_iload_n dX0_look_63 rfl rfl ?_
        refine pE_ialoadN dX0_look_64 (by first | assumption | rfl) (by first | assumption | omega) (by omega) ?_
        rw [(hH1.2.2.2.2.2 j (by omega)).2.2.1]
        refine pE_aload_n dX0_look_65 rfl rfl ?_
        refine pE_getI dX0_look_66 flX0_44 rfl (Or.inl rfl) (by first | assumption | rfl) ?_
        rw [hI.2.2.2]
        refine pE_icmp_ge (tgt := 78) dX0_look_69 (by decide) (fun h69 => ?_) (fun h69 => ?_)
        · have g69 := nq_le (by omega) (by omega) h69
          refine pE_iincN (c0 := 1) (lc' := [_, _, _, some (.int _)]) dX0_look_78 rfl rfl rfl rfl ?_
          refine pE_goto (tgt := 38) dX0_look_81 (by decide) ?_
          first
          | (have hz := rn_zero (j := j) hs hv9 (fun c => by omega)
             refine ih (j + 1) I1 (by omega) (by omega) hf hI (by rw [hR]; simp only [sumN, hz.1, Nat.add_zero]) (by rw [hS]; simp only [setI, hz.1]; simp) (fun s hs2 => by rw [hY s hs2]; simp only [sumN, hz.2 s, Nat.add_zero]))
          | (refine ih (j + 1) I2 (by omega) (by omega) (hf.tr f2) i2 r2 (s2.trans ?_) y2
             show _ = setI (fun j => decide (0 < rnN M k m H j)) (j + 1)
             simp only [setI, decide_eq_true_eq]
             show (if rnN M k m H j = 0 then _ else _) = _
             by_cases c : rnN M k m H j = 0
             · rw [if_pos c, if_neg (by omega)]
             · rw [if_neg c, if_pos (by omega)])
        · have g69 := nq_nle (by omega) (by omega) h69
          refine pE_aload_n dX0_look_72 rfl rfl ?_
          refine pE_aload_n dX0_look_73 rfl rfl ?_
          refine pE_iload_n dX0_look_74 rfl rfl ?_
          refine pE_callV (d' := 1) (as := [_, _]) dX0_look_75 lkX0_69 (cwX0_lookAtRuns _ _) ivX0_lookAtRuns ⟨_, rfl, rfl⟩ (by first | assumption | rfl) rfl rfl (Nat.le_of_ble_eq_true rfl) (by decide) pKK ?_
          refine M_X0_lookAtRuns ho hH1 hr hs (by omega) ⟨g56, g69⟩ hI hR hS hY (fun I2 f2 i2 r2 s2 y2 => ?_)
          refine pE_iincN (c0 := 1) (lc' := [_, _, _, some (.int _)]) dX0_look_78 rfl rfl rfl rfl ?_
          refine pE_goto (tgt := 38) dX0_look_81 (by decide) ?_
          first
          | (have hz := rn_zero (j := j) hs hv9 (fun c => by omega)
             refine ih (j + 1) I1 (by omega) (by omega) hf hI (by rw [hR]; simp only [sumN, hz.1, Nat.add_zero]) (by rw [hS]; simp only [setI, hz.1]; simp) (fun s hs2 => by rw [hY s hs2]; simp only [sumN, hz.2 s, Nat.add_zero]))
          | (refine ih (j + 1) I2 (by omega) (by omega) (hf.tr f2) i2 r2 (s2.trans ?_) y2
             show _ = setI (fun j => decide (0 < rnN M k m H j)) (j + 1)
             simp only [setI, decide_eq_true_eq]
             show (if rnN M k m H j = 0 then _ else _) = _
             by_cases c : rnN M k m H j = 0
             · rw [if_pos c, if_neg (by omega)]
             · rw [if_neg c, if_pos (by omega)])
set_option maxHeartbeats 400000 in
set_option maxRecDepth 100000 in
theorem L1_X0_look {l : Launch} {X : pX} {t g : Nat} {I : pHI} {J : pHJ} {Q : pQ} {o w w2 lh b : Nat} {k : Int32} {m : Nat} {M : pMk} {H : pN} (ho : isH o) (hH : cH o H I) (hr : rH H) (hs : mkS M k m w w2 lh b) (hq : ∀ I1, sC I I1 → I1 47 11 = nI (runR M k m H) → I1 47 12 = runS M k m H → (∀ s, s ≤ 20 → I1 53 s = nI (runY M k m H s)) → Q none I1 J (pR t g)) : ∀ (fu : Nat) (j : Nat) (I1 : pHI), 21 - j < fu → (j ≤ 21) → (sC I I1) → (mkI I1 w w2 lh b) → (I1 47 11 = nI 0) → (I1 47 12 = nI 0) → (∀ s, s < j → I1 53 s = nI 0) → pE l X mX0_look 3 pK 17 [some (.ref 47), some (.ref o), some (.int k), some (.int (nI j))] [] pK I1 J (pR t g) Q := by
  intro fu
  induction fu with
  | zero => intro j I1 hn; exact absurd hn (Nat.not_lt_zero _)
  | succ fu ih =>
    intro j I1 hn hj hf hI hR hS hY
    refine pE_iload_n dX0_look_17 rfl rfl ?_
    refine pE_bipush (v := nI 20) dX0_look_18 rfl ?_
    refine pE_icmp_gt (tgt := 36) dX0_look_20 (by decide) (fun h20 => ?_) (fun h20 => ?_)
    · have g20 := nq_lt (by omega) (by omega) h20
      refine pE_iconst (v := nI 0) dX0_look_36 rfl ?_
      refine pE_istore_n (lc' := [_, _, _, some (.int _)]) dX0_look_37 rfl (Nat.le_of_ble_eq_true rfl) rfl rfl ?_
      exact L2_X0_look ho hH hr hs hq (H 1 + 1) 0 I1 (by omega) (by omega) hf hI hR hS (fun s hs2 => hY s (by omega))
    · have g20 := nq_nlt (by omega) (by omega) h20
      refine pE_aload_n dX0_look_23 rfl rfl ?_
      refine pE_getR dX0_look_24 flX0_53 rfl (by first | assumption | rfl) (by first | assumption | rfl) ?_
      refine pE_iload_n dX0_look_27 rfl rfl ?_
      refine pE_iconst (v := nI 0) dX0_look_28 rfl ?_
      refine pE_iastoreN dX0_look_29 (by first | assumption | rfl) (by first | assumption | omega) (by omega) ?_
      refine pE_iincN (c0 := 1) (lc' := [_, _, _, some (.int _)]) dX0_look_30 rfl rfl rfl rfl ?_
      refine pE_goto (tgt := 17) dX0_look_33 (by decide) ?_
      refine ih (j + 1) _ (by omega) (by omega) hf.p53 ⟨by rw [pu_ne _ _ _ (by decide)]; exact hI.1, by rw [pu_ne _ _ _ (by decide)]; exact hI.2.1, by rw [pu_ne _ _ _ (by decide)]; exact hI.2.2.1, by rw [pu_ne _ _ _ (by decide)]; exact hI.2.2.2⟩ (by rw [pu_ne _ _ _ (by decide)]; exact hR) (by rw [pu_ne _ _ _ (by decide)]; exact hS) (fun s hs2 => ?_)
      rw [pu_at]
      by_cases c : s = j
      · subst c; simp
      · rw [if_neg (fun q => c q.2)]; exact hY s (by omega)
set_option maxHeartbeats 400000 in
set_option maxRecDepth 100000 in
theorem M_X0_look {l : Launch} {X : pX} {t g : Nat} {I : pHI} {J : pHJ} {Q : pQ} {o : Nat} {k : Int32} {m u : Nat} {M : pMk} {H : pN} (ho : isH o) (hH : cH o H I) (hr : rH H) (hM : cM I m u M) (hrM : rM H m u M) (hq : ∀ I1, sC I I1 → I1 47 11 = nI (runR M k m H) → I1 47 12 = runS M k m H → (∀ s, s ≤ 20 → I1 53 s = nI (runY M k m H s)) → Q none I1 J (pR t g)) : pM l X yX0_look mX0_look 3 [.ref 47, .ref o, .int k] pK pK I J (pR t g) Q := by
  refine pM_of rfl (fun h => by cases h) rfl pKM (Nat.le_of_ble_eq_true rfl) ?_
  refine pE_aload_n dX0_look_0 rfl rfl ?_
  refine pE_iload_n dX0_look_1 rfl rfl ?_
  refine pE_callV (d' := 2) (as := [_]) dX0_look_2 lkX0_57 (cwX0_readMarks _ _) ivX0_readMarks ⟨_, rfl, rfl⟩ (by first | assumption | rfl) rfl rfl (Nat.le_of_ble_eq_true rfl) (by decide) pKK ?_
  refine M_X0_readMarks hM hrM (fun I2 w w2 lh b f2 i2 s2 => ?_)
  refine pE_aload_n dX0_look_5 rfl rfl ?_
  refine pE_iconst (v := nI 0) dX0_look_6 rfl ?_
  refine pE_putI dX0_look_7 flX0_47 ftX0 fiX0_11 rfl rfl (by first | assumption | rfl) ?_
  refine pE_aload_n dX0_look_10 rfl rfl ?_
  refine pE_iconst (v := nI 0) dX0_look_11 rfl ?_
  refine pE_putI dX0_look_12 flX0_50 ftX0 fiX0_12 rfl rfl (by first | assumption | rfl) ?_
  refine pE_iconst (v := nI 0) dX0_look_15 rfl ?_
  refine pE_istore_n (lc' := [_, _, _, some (.int _)]) dX0_look_16 rfl (Nat.le_of_ble_eq_true rfl) rfl rfl ?_
  exact L1_X0_look (I := I) ho hH hr s2 hq 22 0 _ (by omega) (by omega) ((f2.p47 (k := 11) (by decide)).p47 (k := 12) (by decide)) ⟨by simp only [pu_at]; simpa using i2.1, by simp only [pu_at]; simpa using i2.2.1, by simp only [pu_at]; simpa using i2.2.2.1, by simp only [pu_at]; simpa using i2.2.2.2⟩ (by simp [pu_at]) (by simp [pu_at]) (fun s hs => by omega)
set_option maxHeartbeats 400000 in
set_option maxRecDepth 100000 in
theorem M_X0_leftAtMost {l : Launch} {X : pX} {t g : Nat} {I : pHI} {J : pHJ} {Q : pQ} {s R y : Nat} (hs : s ≤ 20) (hR : I 47 11 = nI R) (hY : I 53 s = nI y) (h1 : y ≤ R) (h2 : R ≤ 10000) (hq : Q (some (.int (nI (max y (R - y))))) I J (pR t g)) : pM l X yX0_leftAtMost mX0_leftAtMost 1 [.ref 47, .int (nI s)] pK pK I J (pR t g) Q := by
  refine pM_of rfl (fun h => by cases h) rfl pKM (Nat.le_of_ble_eq_true rfl) ?_
  refine pE_iload_n dX0_leftAtMost_0 rfl rfl ?_
  refine pE_if_lt (tgt := 10) dX0_leftAtMost_1 (by decide) (fun h1 => ?_) (fun h1 => ?_)
  · exact absurd h1 (nI_pos (by omega))
  · refine pE_iload_n dX0_leftAtMost_4 rfl rfl ?_
    refine pE_bipush (v := nI 20) dX0_leftAtMost_5 rfl ?_
    refine pE_icmp_le (tgt := 15) dX0_leftAtMost_7 (by decide) (fun h7 => ?_) (fun h7 => ?_)
    · have g7 := nq_le (by omega) (by omega) h7
      refine pE_aload_n dX0_leftAtMost_15 rfl rfl ?_
      refine pE_getR dX0_leftAtMost_16 flX0_53 rfl (by first | assumption | rfl) (by first | assumption | rfl) ?_
      refine pE_iload_n dX0_leftAtMost_19 rfl rfl ?_
      refine pE_ialoadN dX0_leftAtMost_20 (by first | assumption | rfl) (by first | assumption | omega) (by omega) ?_
      rw [hY]
      refine pE_aload_n dX0_leftAtMost_21 rfl rfl ?_
      refine pE_getI dX0_leftAtMost_22 flX0_47 rfl (Or.inl rfl) (by first | assumption | rfl) ?_
      rw [hR]
      refine pE_aload_n dX0_leftAtMost_25 rfl rfl ?_
      refine pE_getR dX0_leftAtMost_26 flX0_53 rfl (by first | assumption | rfl) (by first | assumption | rfl) ?_
      refine pE_iload_n dX0_leftAtMost_29 rfl rfl ?_
      refine pE_ialoadN dX0_leftAtMost_30 (by first | assumption | rfl) (by first | assumption | omega) (by omega) ?_
      rw [hY]
      refine pE_isubN dX0_leftAtMost_31 (by omega) ?_
      refine pE_max dX0_leftAtMost_32 lkX0_80 (by decide) (Nat.le_of_ble_eq_true rfl) ?_
      rw [nI_max _ _ (by omega) (by omega)]
      refine pE_iret dX0_leftAtMost_35 rfl rfl ?_
      exact hq
    · have g7 := nq_nle (by omega) (by omega) h7
      omega
set_option maxHeartbeats 400000 in
set_option maxRecDepth 100000 in
theorem M_X11_runs {l : Launch} {X : pX} {t g : Nat} {I : pHI} {J : pHJ} {Q : pQ} {k : Int32} {m u : Nat} {M : pMk} {H : pN} (ht : isH t) (hH : cH t H I) (hr : rH H) (hM : cM I m u M) (hrM : rM H m u M) (hq : ∀ I1, sC I I1 → Q (some (.int (nI (runR M k m H)))) I1 J (pR t g)) : pM l X yX11_runs mX11_runs 4 [.ref 0, .int k] pK pK I J (pR t g) Q := by
  refine pM_of rfl (fun h => by cases h) rfl pKM (Nat.le_of_ble_eq_true rfl) ?_
  refine pE_aload_n dX11_runs_0 rfl rfl ?_
  refine pE_getR dX11_runs_1 flX11_63 rfl (by first | assumption | rfl) (by first | assumption | rfl) ?_
  refine pE_aload_n dX11_runs_4 rfl rfl ?_
  refine pE_getR dX11_runs_5 flX11_29 rfl (by first | assumption | rfl) (by first | assumption | rfl) ?_
  refine pE_iload_n dX11_runs_8 rfl rfl ?_
  refine pE_callV (d' := 3) (as := [_, _]) dX11_runs_9 lkX11_324 (cwX0_look _ _) ivX0_look ⟨_, rfl, rfl⟩ (by first | assumption | rfl) rfl rfl (Nat.le_of_ble_eq_true rfl) (by decide) pKK ?_
  refine M_X0_look ht hH hr hM hrM (fun I1 f1 r1 s1 y1 => ?_)
  refine pE_aload_n dX11_runs_12 rfl rfl ?_
  refine pE_getR dX11_runs_13 flX11_63 rfl (by first | assumption | rfl) (by first | assumption | rfl) ?_
  refine pE_getI dX11_runs_16 flX11_328 rfl (Or.inl rfl) (by first | assumption | rfl) ?_
  rw [r1]
  refine pE_iret dX11_runs_19 rfl rfl ?_
  exact hq _ f1
set_option maxHeartbeats 400000 in
set_option maxRecDepth 100000 in
theorem M_X11_who {l : Launch} {X : pX} {t g : Nat} {I : pHI} {J : pHJ} {Q : pQ} {k : Int32} {m u : Nat} {M : pMk} {H : pN} (ht : isH t) (hH : cH t H I) (hr : rH H) (hM : cM I m u M) (hrM : rM H m u M) (hq : ∀ I1, sC I I1 → Q (some (.int (runS M k m H))) I1 J (pR t g)) : pM l X yX11_who mX11_who 4 [.ref 0, .int k] pK pK I J (pR t g) Q := by
  refine pM_of rfl (fun h => by cases h) rfl pKM (Nat.le_of_ble_eq_true rfl) ?_
  refine pE_aload_n dX11_who_0 rfl rfl ?_
  refine pE_getR dX11_who_1 flX11_63 rfl (by first | assumption | rfl) (by first | assumption | rfl) ?_
  refine pE_aload_n dX11_who_4 rfl rfl ?_
  refine pE_getR dX11_who_5 flX11_29 rfl (by first | assumption | rfl) (by first | assumption | rfl) ?_
  refine pE_iload_n dX11_who_8 rfl rfl ?_
  refine pE_callV (d' := 3) (as := [_, _]) dX11_who_9 lkX11_324 (cwX0_look _ _) ivX0_look ⟨_, rfl, rfl⟩ (by first | assumption | rfl) rfl rfl (Nat.le_of_ble_eq_true rfl) (by decide) pKK ?_
  refine M_X0_look ht hH hr hM hrM (fun I1 f1 r1 s1 y1 => ?_)
  refine pE_aload_n dX11_who_12 rfl rfl ?_
  refine pE_getR dX11_who_13 flX11_63 rfl (by first | assumption | rfl) (by first | assumption | rfl) ?_
  refine pE_getI dX11_who_16 flX11_331 rfl (Or.inl rfl) (by first | assumption | rfl) ?_
  rw [s1]
  refine pE_iret dX11_who_19 rfl rfl ?_
  exact hq _ f1
set_option maxHeartbeats 400000 in
set_option maxRecDepth 100000 in
theorem L_X11_ask {l : Launch} {X : pX} {t g : Nat} {I : pHI} {J : pHJ} {Q : pQ} {w : Nat} {k : Int32} {m : Nat} {M : pMk} {H : pN} (ht : isH t) (hH : cH t H I) (hr : rH H) (hw : w ≤ 1) (hR : I 47 11 = nI (runR M k m H)) (hY : ∀ s, s ≤ 20 → I 53 s = nI (runY M k m H s)) (hq : Q (some (.int (askA (askF M k m H) (lsN (askF M k m H) (H 0 + 1)) w))) I J (pR t g)) : ∀ (fu j : Nat) (v6 : Option Value), H 0 + 1 - j < fu → j ≤ H 0 + 1 → pE l X mX11_ask 4 pK 43 [some (.ref 0), some (.int (nI w)), some (.int k), some (.int (oI (lsN (askF M k m H) j))), some (.int (nI (lsF (askF M k m H) 0 (lsN (askF M k m H) j)))), some (.int (nI j)), v6] [] pK I J (pR t g) Q := by
  obtain ⟨fHFht0, fHFht1, fHFht2, fHFht3, fHFht4, fHFht5, fHFht6, fHFht7, fHFht8, fHFht9, fHFht10, fHFht11, fHFht12, fHFht13, fHFht14, fHFht15, fHFht16, fHFht17, fHFht18, fHFht19, fHFht20, fHFht21, fHFht22, fHFht23, fHFht24, fHFht25, fHFht26⟩ := HF t g ht
  have hn8 := hr.2.1
  have hn20 := hr.1.2
  have hR3 := runR_le M k m (H := H) hn8 hn20
  have hYR := runY_le M k m H
  have hFR := askF_le M k m H
  intro fu
  induction fu with
  | zero => intro j v6 hn; exact absurd hn (Nat.not_lt_zero _)
  | succ fu ih =>
    intro j v6 hn hj
    have hYj := hYR j
    have hFj := hFR j
    cases e : lsN (askF M k m H) j with
    | none =>
      have hj0 := ls_none e
      rw [show oI none = (-1 : Int32) from rfl, show lsF (askF M k m H) 0 none = 0 from rfl]
      refine pE_iload dX11_ask_43 rfl ?_
      refine pE_aload_n dX11_ask_45 rfl rfl ?_
      refine pE_getR dX11_ask_46 flX11_29 rfl (by first | assumption | rfl) (by first | assumption | rfl) ?_
      refine pE_getI dX11_ask_49 flX11_210 rfl (Or.inl rfl) (by first | assumption | rfl) ?_
      rw [hH.1]
      refine pE_icmp_gt (tgt := 91) dX11_ask_52 (by decide) (fun h52 => ?_) (fun h52 => ?_)
      · have g52 := nq_lt (by omega) (by omega) h52
        omega
      · have g52 := nq_nlt (by omega) (by omega) h52
        refine pE_aload_n dX11_ask_55 rfl rfl ?_
        refine pE_getR dX11_ask_56 flX11_63 rfl (by first | assumption | rfl) (by first | assumption | rfl) ?_
        refine pE_iload dX11_ask_59 rfl ?_
        refine pE_callV (d' := 1) (as := [_]) dX11_ask_61 lkX11_334 (cwX0_leftAtMost _ _) ivX0_leftAtMost ⟨_, rfl, rfl⟩ (by first | assumption | rfl) rfl rfl (Nat.le_of_ble_eq_true rfl) (by decide) pKK ?_
        refine M_X0_leftAtMost (by omega) hR (hY j (by omega)) hYj (by omega) ?_
        rw [show max (runY M k m H j) (runR M k m H - runY M k m H j) = askF M k m H j from rfl]
        refine pE_istore (lc' := [_, _, _, _, _, _, some (.int _)]) dX11_ask_64 (Nat.le_of_ble_eq_true rfl) rfl rfl ?_
        refine pE_iload_n dX11_ask_66 rfl rfl ?_
        refine pE_iconst (v := -1) dX11_ask_67 rfl ?_
        refine pE_icmp_eq (tgt := 78) dX11_ask_68 (by decide) (fun h68 => ?_) (fun h68 => ?_)
        · refine pE_iload dX11_ask_78 rfl ?_
          refine pE_istore_n (lc' := [_, _, _, some (.int _), _, _, _]) dX11_ask_80 rfl (Nat.le_of_ble_eq_true rfl) rfl rfl ?_
          refine pE_iload dX11_ask_81 rfl ?_
          refine pE_istore (lc' := [_, _, _, _, some (.int _), _, _]) dX11_ask_83 (Nat.le_of_ble_eq_true rfl) rfl rfl ?_
          refine pE_iincN (c0 := 1) (lc' := [_, _, _, _, _, some (.int _), _]) dX11_ask_85 rfl rfl rfl rfl ?_
          refine pE_goto (tgt := 43) dX11_ask_88 (by decide) ?_
          refine pE_cg (ih (j + 1) (some (.int (nI (askF M k m H j)))) (by omega) (by omega)) (by
              rw [ls_0 e]; rfl) rfl rfl rfl rfl
        · exact absurd rfl h68
    | some b =>
      have hb := ls_some e
      have hFb := hFR b
      rw [show oI (some b) = nI b from rfl, show lsF (askF M k m H) 0 (some b) = askF M k m H b from rfl]
      refine pE_iload dX11_ask_43 rfl ?_
      refine pE_aload_n dX11_ask_45 rfl rfl ?_
      refine pE_getR dX11_ask_46 flX11_29 rfl (by first | assumption | rfl) (by first | assumption | rfl) ?_
      refine pE_getI dX11_ask_49 flX11_210 rfl (Or.inl rfl) (by first | assumption | rfl) ?_
      rw [hH.1]
      refine pE_icmp_gt (tgt := 91) dX11_ask_52 (by decide) (fun h52 => ?_) (fun h52 => ?_)
      · have g52 := nq_lt (by omega) (by omega) h52
        obtain rfl : j = H 0 + 1 := by omega
        rw [e] at hq
        refine pE_iload_n dX11_ask_91 rfl rfl ?_
        refine pE_if_ne (tgt := 99) dX11_ask_92 (by decide) (fun h92 => ?_) (fun h92 => ?_)
        · have g92 := nq_ne0 (by omega) h92
          refine pE_iload dX11_ask_99 rfl ?_
          refine pE_iret dX11_ask_101 rfl rfl ?_
          first
          | (have e0 : w = 0 := (by omega); subst e0; exact hq)
          | (have e0 : w = 1 := (by omega); subst e0; exact hq)
        · have g92 := nq_eq0 (by omega) h92
          refine pE_iload_n dX11_ask_95 rfl rfl ?_
          refine pE_goto (tgt := 101) dX11_ask_96 (by decide) ?_
          refine pE_iret dX11_ask_101 rfl rfl ?_
          first
          | (have e0 : w = 0 := (by omega); subst e0; exact hq)
          | (have e0 : w = 1 := (by omega); subst e0; exact hq)
      · have g52 := nq_nlt (by omega) (by omega) h52
        refine pE_aload_n dX11_ask_55 rfl rfl ?_
        refine pE_getR dX11_ask_56 flX11_63 rfl (by first | assumption | rfl) (by first | assumption | rfl) ?_
        refine pE_iload dX11_ask_59 rfl ?_
        refine pE_callV (d' := 1) (as := [_]) dX11_ask_61 lkX11_334 (cwX0_leftAtMost _ _) ivX0_leftAtMost ⟨_, rfl, rfl⟩ (by first | assumption | rfl) rfl rfl (Nat.le_of_ble_eq_true rfl) (by decide) pKK ?_
        refine M_X0_leftAtMost (by omega) hR (hY j (by omega)) hYj (by omega) ?_
        rw [show max (runY M k m H j) (runR M k m H - runY M k m H j) = askF M k m H j from rfl]
        refine pE_istore (lc' := [_, _, _, _, _, _, some (.int _)]) dX11_ask_64 (Nat.le_of_ble_eq_true rfl) rfl rfl ?_
        refine pE_iload_n dX11_ask_66 rfl rfl ?_
        refine pE_iconst (v := -1) dX11_ask_67 rfl ?_
        refine pE_icmp_eq (tgt := 78) dX11_ask_68 (by decide) (fun h68 => ?_) (fun h68 => ?_)
        · exact absurd h68 (nI_m1n (by omega))
        · refine pE_iload dX11_ask_71 rfl ?_
          refine pE_iload dX11_ask_73 rfl ?_
          refine pE_icmp_ge (tgt := 85) dX11_ask_75 (by decide) (fun h75 => ?_) (fun h75 => ?_)
          · have g75 := nq_le (by omega) (by omega) h75
            refine pE_iincN (c0 := 1) (lc' := [_, _, _, _, _, some (.int _), _]) dX11_ask_85 rfl rfl rfl rfl ?_
            refine pE_goto (tgt := 43) dX11_ask_88 (by decide) ?_
            refine pE_cg (ih (j + 1) (some (.int (nI (askF M k m H j)))) (by omega) (by omega)) (by
                first | (rw [ls_y e (by omega)]; rfl) | (rw [ls_n e (by omega)]; rfl)) rfl rfl rfl rfl
          · have g75 := nq_nle (by omega) (by omega) h75
            refine pE_iload dX11_ask_78 rfl ?_
            refine pE_istore_n (lc' := [_, _, _, some (.int _), _, _, _]) dX11_ask_80 rfl (Nat.le_of_ble_eq_true rfl) rfl rfl ?_
            refine pE_iload dX11_ask_81 rfl ?_
            refine pE_istore (lc' := [_, _, _, _, some (.int _), _, _]) dX11_ask_83 (Nat.le_of_ble_eq_true rfl) rfl rfl ?_
            refine pE_iincN (c0 := 1) (lc' := [_, _, _, _, _, some (.int _), _]) dX11_ask_85 rfl rfl rfl rfl ?_
            refine pE_goto (tgt := 43) dX11_ask_88 (by decide) ?_
            refine pE_cg (ih (j + 1) (some (.int (nI (askF M k m H j)))) (by omega) (by omega)) (by
                first | (rw [ls_y e (by omega)]; rfl) | (rw [ls_n e (by omega)]; rfl)) rfl rfl rfl rfl
set_option maxHeartbeats 400000 in
set_option maxRecDepth 100000 in
theorem M_X11_ask {l : Launch} {X : pX} {t g : Nat} {I : pHI} {J : pHJ} {Q : pQ} {x k : Int32} {m u : Nat} {M : pMk} {H : pN} (ht : isH t) (hH : cH t H I) (hr : rH H) (hM : cM I m u M) (hrM : rM H m u M) (h1 : ∀ w, w ≤ 1 → x = nI w → 0 < runR M k m H → ∀ I1, sC I I1 → Q (some (.int (askA (askF M k m H) (lsN (askF M k m H) (H 0 + 1)) w))) I1 J (pR t g)) (h0 : ((∀ w, w ≤ 1 → x ≠ nI w) ∨ runR M k m H = 0) → ∀ I1, sC I I1 → Q (some (.int (-1))) I1 J (pR t g)) : pM l X yX11_ask mX11_ask 4 [.ref 0, .int x, .int k] pK pK I J (pR t g) Q := by
  obtain ⟨fHFht0, fHFht1, fHFht2, fHFht3, fHFht4, fHFht5, fHFht6, fHFht7, fHFht8, fHFht9, fHFht10, fHFht11, fHFht12, fHFht13, fHFht14, fHFht15, fHFht16, fHFht17, fHFht18, fHFht19, fHFht20, fHFht21, fHFht22, fHFht23, fHFht24, fHFht25, fHFht26⟩ := HF t g ht
  have hR3 := runR_le M k m (H := H) hr.2.1 hr.1.2
  refine pM_of rfl (fun h => by cases h) rfl pKM (Nat.le_of_ble_eq_true rfl) ?_
  rcases nI_or x with hx | ⟨w, hw, rfl⟩
  · refine pE_iload_n dX11_ask_0 rfl rfl ?_
    refine pE_if_lt (tgt := 9) dX11_ask_1 (by decide) (fun h1' => ?_) (fun h1' => ?_)
    · refine pE_iconst (v := -1) dX11_ask_9 rfl ?_
      refine pE_iret dX11_ask_10 rfl rfl ?_
      exact h0 (Or.inl (fun s hs e => by rw [e] at hx; exact absurd hx (nI_pos (by omega)))) _ sC.rf
    · exact absurd hx h1'
  · refine pE_iload_n dX11_ask_0 rfl rfl ?_
    refine pE_if_lt (tgt := 9) dX11_ask_1 (by decide) (fun h1' => ?_) (fun h1' => ?_)
    · exact absurd h1' (nI_pos (by omega))
    · refine pE_iload_n dX11_ask_4 rfl rfl ?_
      refine pE_iconst (v := nI 1) dX11_ask_5 rfl ?_
      refine pE_icmp_le (tgt := 11) dX11_ask_6 (by decide) (fun h6 => ?_) (fun h6 => ?_)
      · have g6 := nq_le (by omega) (by omega) h6
        refine pE_aload_n dX11_ask_11 rfl rfl ?_
        refine pE_getR dX11_ask_12 flX11_63 rfl (by first | assumption | rfl) (by first | assumption | rfl) ?_
        refine pE_aload_n dX11_ask_15 rfl rfl ?_
        refine pE_getR dX11_ask_16 flX11_29 rfl (by first | assumption | rfl) (by first | assumption | rfl) ?_
        refine pE_iload_n dX11_ask_19 rfl rfl ?_
        refine pE_callV (d' := 3) (as := [_, _]) dX11_ask_20 lkX11_324 (cwX0_look _ _) ivX0_look ⟨_, rfl, rfl⟩ (by first | assumption | rfl) rfl rfl (Nat.le_of_ble_eq_true rfl) (by decide) pKK ?_
        refine M_X0_look ht hH hr hM hrM (fun I1 f1 r1 s1 y1 => ?_)
        refine pE_aload_n dX11_ask_23 rfl rfl ?_
        refine pE_getR dX11_ask_24 flX11_63 rfl (by first | assumption | rfl) (by first | assumption | rfl) ?_
        refine pE_getI dX11_ask_27 flX11_328 rfl (Or.inl rfl) (by first | assumption | rfl) ?_
        rw [r1]
        refine pE_if_ne (tgt := 35) dX11_ask_30 (by decide) (fun h30 => ?_) (fun h30 => ?_)
        · have g30 := nq_ne0 (by omega) h30
          refine pE_iconst (v := -1) dX11_ask_35 rfl ?_
          refine pE_istore_n (lc' := [_, _, _, some (.int _), _, _, _]) dX11_ask_36 rfl (Nat.le_of_ble_eq_true rfl) rfl rfl ?_
          refine pE_iconst (v := nI 0) dX11_ask_37 rfl ?_
          refine pE_istore (lc' := [_, _, _, _, some (.int _), _, _]) dX11_ask_38 (Nat.le_of_ble_eq_true rfl) rfl rfl ?_
          refine pE_iconst (v := nI 0) dX11_ask_40 rfl ?_
          refine pE_istore (lc' := [_, _, _, _, _, some (.int _), _]) dX11_ask_41 (Nat.le_of_ble_eq_true rfl) rfl rfl ?_
          exact L_X11_ask ht (hH.sC ht f1) hr (by omega) r1 y1 (h1 w (by omega) rfl g30 I1 f1) (H 0 + 2) 0 _ (by omega) (by omega)
        · have g30 := nq_eq0 (by omega) h30
          refine pE_iconst (v := -1) dX11_ask_33 rfl ?_
          refine pE_iret dX11_ask_34 rfl rfl ?_
          exact h0 (Or.inr g30) _ f1
      · have g6 := nq_nle (by omega) (by omega) h6
        refine pE_iconst (v := -1) dX11_ask_9 rfl ?_
        refine pE_iret dX11_ask_10 rfl rfl ?_
        exact h0 (Or.inl (fun s hs e => by have := nq_eq (by omega) (by omega) e; omega)) _ sC.rf
