theorem ln1_0g {B : Nat → Nat} {n p : Nat} {D : pDt} (h3 : ¬ (tkWb B n p 3 = true ∧ D.1 1 < 8)) (h10 : ¬ (tkWb B n p 10 = true ∧ D.2.2.1 = none)) (h17 : ¬ (tkWb B n p 17 = true ∧ D.2.2.2.1 = none)) (h18 : ¬ (tkWb B n p 18 = true ∧ D.2.2.2.2 = false)) : ln1 B n p false D = (.inl (2, tQ B n p), D) := by
  unfold ln1; rw [if_neg (by simp), if_neg h3, if_neg h10, if_neg h17, if_neg h18]
theorem nxG_s {B : Nat → Nat} {n p c : Nat} (h : tkGb B n p c = true) : nxG B n c (sOf B n p) = sOf B n (tE B n p) := by
  unfold sOf
  rw [if_neg (by have := (tkGb_k h).1; omega), nxG, if_pos h]; rfl
theorem nxG_f {B : Nat → Nat} {n p c : Nat} (h : ¬ tkGb B n p c = true) : nxG B n c (sOf B n p) = .inl (if tK B n p = 1 then 1 else 2, tQ B n p) := by
  unfold sOf
  split
  · rfl
  · rw [nxG, if_neg h]
set_option maxHeartbeats 400000 in
set_option maxRecDepth 100000 in
theorem L_X12_line149 {l : Launch} {X : pX} {t g : Nat} {I : pHI} {J : pHJ} {Q : pQ} {n : Nat} {B : Nat → Nat} {R : pRS × pDt} {I1 : pHI} {J1 : pHJ} (hT : tpM I n B) (hx : sML I I1) (jx : jN J J1) (hr1 : mRd B n I1 J1 R.1) (hc : ∀ q, R.1 = .inr q → mDt I1 J1 R.2) (hq : ∀ I1 J1, sML I I1 → jN J J1 → I1 67 43 = nI 1 → mRd B n I1 J1 (nxG B n 59 R.1) → (∀ q, nxG B n 59 R.1 = .inr q → mDt I1 J1 R.2) → Q none I1 J1 (pR t g)) : pE l X mX12_readLine 7 pK 149 [some (.ref 67)] [] pK I1 J1 (pR t g) Q := by
  have hx2 : sML I (pu I1 67 43 (nI 1)) := hx.ps (by omega)
  have hT2 := hT.l hx2
  have h43 : (pu I1 67 43 (nI 1)) 67 43 = nI 1 := by rw [pu_at, if_pos ⟨rfl, rfl⟩]
  have hc2 : ∀ q, R.1 = .inr q → mDt (pu I1 67 43 (nI 1)) J1 R.2 := fun q e => (hc q e).fr (fun k hk => by rw [pu_at, if_neg (by omega)]) (fun c i hc => by rw [pu_ne _ _ _ (by omega)]) (hc q e).2.2.2.2.1
  have hr2 : mRd B n (pu I1 67 43 (nI 1)) J1 R.1 := hr1.fr (fun k hk => by rw [pu_at, if_neg (by omega)])
  rcases hr2 with ⟨e, e1, e2⟩ | ⟨p, e1, e2⟩
  · have h14 := e2.2.1
    rw [e1] at hq
    refine pE_aload_n dX12_readLine_149 rfl rfl ?_
    refine pE_iconst (v := nI 1) dX12_readLine_150 rfl ?_
    refine pE_putB dX12_readLine_151 flX12_325 ftX12 fiX12_43 rfl rfl (by first | assumption | rfl) (by first | exact Or.inl nI_0 | exact Or.inr nI_1' | assumption) ?_
    refine pE_aload_n dX12_readLine_154 rfl rfl ?_
    refine pE_getI dX12_readLine_155 flX12_182 rfl (Or.inl rfl) (by first | assumption | rfl) ?_
    rw [e2.1]
    refine pE_if_ne (tgt := 175) dX12_readLine_158 (by decide) (fun h158 => ?_) (fun h158 => ?_)
    · have g158 := nq_ne0 (by omega) h158
      refine pE_aload_n dX12_readLine_175 rfl rfl ?_
      refine pE_getI dX12_readLine_176 flX12_182 rfl (Or.inl rfl) (by first | assumption | rfl) ?_
      rw [e2.1]
      refine pE_if_ne (tgt := 186) dX12_readLine_179 (by decide) (fun h179 => ?_) (fun h179 => ?_)
      · have g179 := nq_ne0 (by omega) h179
        refine pE_vret dX12_readLine_186 rfl rfl ?_
        exact hq _ J1 hx2 jx h43 e2.rd (fun q h => by cases h)
      · have g179 := nq_eq0 (by omega) h179
        omega
    · have g158 := nq_eq0 (by omega) h158
      omega
  · have hd := mKd_b (B := B) e2.2.2.1
    refine pE_aload_n dX12_readLine_149 rfl rfl ?_
    refine pE_iconst (v := nI 1) dX12_readLine_150 rfl ?_
    refine pE_putB dX12_readLine_151 flX12_325 ftX12 fiX12_43 rfl rfl (by first | assumption | rfl) (by first | exact Or.inl nI_0 | exact Or.inr nI_1' | assumption) ?_
    refine pE_aload_n dX12_readLine_154 rfl rfl ?_
    refine pE_getI dX12_readLine_155 flX12_182 rfl (Or.inl rfl) (by first | assumption | rfl) ?_
    rw [e2.1]
    refine pE_if_ne (tgt := 175) dX12_readLine_158 (by decide) (fun h158 => ?_) (fun h158 => ?_)
    · have g158 := nq_ne0 (by omega) h158
      omega
    · have g158 := nq_eq0 (by omega) h158
      refine pE_aload_n dX12_readLine_161 rfl rfl ?_
      refine pE_getI dX12_readLine_162 flX12_169 rfl (Or.inl rfl) (by first | assumption | rfl) ?_
      rw [e2.2.2.2.1]
      refine pE_bipush (v := nI 59) dX12_readLine_165 rfl ?_
      refine pE_icmp_eq (tgt := 175) dX12_readLine_167 (by decide) (fun h167 => ?_) (fun h167 => ?_)
      · have g167 := nq_eq (by omega) (by omega) h167
        have hs : tkGb B n p 59 = true := (hd.2.2.2.2.2 59 (by omega)).mp g167
        refine pE_aload_n dX12_readLine_175 rfl rfl ?_
        refine pE_getI dX12_readLine_176 flX12_182 rfl (Or.inl rfl) (by first | assumption | rfl) ?_
        rw [e2.1]
        refine pE_if_ne (tgt := 186) dX12_readLine_179 (by decide) (fun h179 => ?_) (fun h179 => ?_)
        · have g179 := nq_ne0 (by omega) h179
          omega
        · have g179 := nq_eq0 (by omega) h179
          refine pE_aload_n dX12_readLine_182 rfl rfl ?_
          refine pE_callV (d' := 2) (as := []) dX12_readLine_183 lkX12_230 (cwX12_token _ _) ivX12_token ⟨_, rfl, rfl⟩ (by first | assumption | rfl) rfl rfl (Nat.le_of_ble_eq_true rfl) (by decide) pKK ?_
          refine M_X12_tokenN hT2 e2 (by have := (tkGb_k hs).1; omega) (fun I2 J2 x1 y1 x2 => ?_)
          refine pE_vret dX12_readLine_186 rfl rfl ?_
          have e3 : nxG B n 59 R.1 = sOf B n (tE B n p) := by rw [e1]; exact nxG_s hs
          refine hq I2 J2 (hx2.tr x1.l) (jx.tr y1.n) ((x1 67 43 (by omega)).trans h43) (by rw [e3]; exact x2.rd) (fun q h => ?_)
          have e4 : R.1 = .inr p := by rw [e1]; unfold sOf; rw [if_neg (by have := (tkGb_k hs).1; omega)]
          exact (hc2 p e4).r x1 y1
      · have g167 := nq_ne (by omega) (by omega) h167
        have hs : ¬ tkGb B n p 59 = true := fun z => g167 ((hd.2.2.2.2.2 59 (by omega)).mpr z)
        refine pE_aload_n dX12_readLine_170 rfl rfl ?_
        refine pE_iconst (v := nI 2) dX12_readLine_171 rfl ?_
        refine pE_callV (d' := 0) (as := [_]) dX12_readLine_172 lkX12_227 (cwX12_wrong _ _) ivX12_wrong ⟨_, rfl, rfl⟩ (by first | assumption | rfl) rfl rfl (Nat.le_of_ble_eq_true rfl) (by decide) pKK ?_
        refine M_X12_wrong hT2 e2 (by omega) (fun I2 x1 x2 => ?_)
        have x3 := x2.1
        have x4 := x2.2.1
        simp only at x3 x4
        refine pE_aload_n dX12_readLine_175 rfl rfl ?_
        refine pE_getI dX12_readLine_176 flX12_182 rfl (Or.inl rfl) (by first | assumption | rfl) ?_
        rw [x3]
        refine pE_if_ne (tgt := 186) dX12_readLine_179 (by decide) (fun h179 => ?_) (fun h179 => ?_)
        · have g179 := nq_ne0 (by omega) h179
          refine pE_vret dX12_readLine_186 rfl rfl ?_
          have e3 : nxG B n 59 R.1 = .inl (if tK B n p = 1 then 1 else 2, tQ B n p) := by rw [e1]; exact nxG_f hs
          exact hq I2 J1 (hx2.tr x1.l) jx ((x1 67 43 (by omega)).trans h43) (by rw [e3]; exact x2.rd) (fun q h => by rw [e3] at h; cases h)
        · have g179 := nq_eq0 (by omega) h179
          omega
set_option maxHeartbeats 400000 in
set_option maxRecDepth 100000 in
theorem L_X12_line144 {l : Launch} {X : pX} {t g : Nat} {I : pHI} {J : pHJ} {Q : pQ} {n p : Nat} {B : Nat → Nat} {D : pDt} (hT : tpM I n B) (hr : mR0 B n p I J) (hk : tK B n p ≠ 1) (hD : mDt I J D) (hrD : rDt D) (h3 : ¬ (tkWb B n p 3 = true ∧ D.1 1 < 8)) (h10 : ¬ (tkWb B n p 10 = true ∧ D.2.2.1 = none)) (h17 : ¬ (tkWb B n p 17 = true ∧ D.2.2.2.1 = none)) (h18 : ¬ (tkWb B n p 18 = true ∧ D.2.2.2.2 = false)) (hq : ∀ I1 J1, sML I I1 → jN J J1 → I1 67 43 = nI 1 → mRd B n I1 J1 (lnL B n p false D).1 → (∀ q, (lnL B n p false D).1 = .inr q → mDt I1 J1 (lnL B n p false D).2) → Q none I1 J1 (pR t g)) : pE l X mX12_readLine 7 pK 144 [some (.ref 67)] [] pK I J (pR t g) Q := by
  have hp := hr.2.2.1
  have hD8 := hrD.2.1
  refine pE_aload_n dX12_readLine_144 rfl rfl ?_
  refine pE_iconst (v := nI 2) dX12_readLine_145 rfl ?_
  refine pE_callV (d' := 0) (as := [_]) dX12_readLine_146 lkX12_227 (cwX12_wrong _ _) ivX12_wrong ⟨_, rfl, rfl⟩ (by first | assumption | rfl) rfl rfl (Nat.le_of_ble_eq_true rfl) (by decide) pKK ?_
  refine M_X12_wrong hT hr (by omega) (fun I1 x1 x2 => ?_)
  rw [if_neg hk] at x2
  exact L_X12_line149 (R := ln1 B n p false D) hT x1.l jN.rf (by rw [ln1_0g h3 h10 h17 h18]; exact x2.rd) (by rw [ln1_0g h3 h10 h17 h18]; exact fun q e => by cases e) hq
set_option maxHeartbeats 400000 in
set_option maxRecDepth 100000 in
theorem L_X12_line104 {l : Launch} {X : pX} {t g : Nat} {I : pHI} {J : pHJ} {Q : pQ} {n p : Nat} {B : Nat → Nat} {D : pDt} (hT : tpM I n B) (hr : mR0 B n p I J) (hk : tK B n p ≠ 1) (hD : mDt I J D) (hrD : rDt D) (h3 : ¬ (tkWb B n p 3 = true ∧ D.1 1 < 8)) (h10 : ¬ (tkWb B n p 10 = true ∧ D.2.2.1 = none)) (h17 : ¬ (tkWb B n p 17 = true ∧ D.2.2.2.1 = none)) (hq : ∀ I1 J1, sML I I1 → jN J J1 → I1 67 43 = nI 1 → mRd B n I1 J1 (lnL B n p false D).1 → (∀ q, (lnL B n p false D).1 = .inr q → mDt I1 J1 (lnL B n p false D).2) → Q none I1 J1 (pR t g)) : pE l X mX12_readLine 7 pK 104 [some (.ref 67)] [] pK I J (pR t g) Q := by
  have hp := hr.2.2.1
  have hD8 := hrD.2.1
  refine pE_aload_n dX12_readLine_104 rfl rfl ?_
  refine pE_ldc2 dX12_readLine_105 kcX12_205 ?_
  rw [show (1685217655 : Int64) = mwJ (kwL 18) from mwk.2.2.2.2.2.2.2.2.2.2.2.2.2.2.2.2.symm]
  refine pE_callV (d' := 0) (as := [_]) dX12_readLine_108 lkX12_223 (cwX12_isWord _ _) ivX12_isWord ⟨_, rfl, rfl⟩ (by first | assumption | rfl) rfl rfl (Nat.le_of_ble_eq_true rfl) (by decide) pKK ?_
  refine M_X12_isWord hr (show 18 ∈ ownI by decide) (fun w18 => ?_) (fun w18 => ?_)
  · refine pE_if_eq_f (tgt := 144) dX12_readLine_111 (by decide) nI_1n0 ?_
    have hdr := hD.2.2.2.1
    by_cases h18 : D.2.2.2.2 = false
    · rw [if_pos h18] at hdr
      refine pE_aload_n dX12_readLine_114 rfl rfl ?_
      refine pE_getI dX12_readLine_115 flX12_338 rfl (Or.inr rfl) (by first | assumption | rfl) ?_
      rw [hdr]
      refine pE_if_ne (tgt := 144) dX12_readLine_118 (by decide) (fun h118 => ?_) (fun h118 => ?_)
      · have g118 := nq_ne0 (by omega) h118
        omega
      · have g118 := nq_eq0 (by omega) h118
        refine pE_aload_n dX12_readLine_121 rfl rfl ?_
        refine pE_iconst (v := nI 1) dX12_readLine_122 rfl ?_
        refine pE_putB dX12_readLine_123 flX12_338 ftX12 fiX12_44 rfl rfl (by first | assumption | rfl) (by first | exact Or.inl nI_0 | exact Or.inr nI_1' | assumption) ?_
        refine pE_aload_n dX12_readLine_126 rfl rfl ?_
        refine pE_aload_n dX12_readLine_127 rfl rfl ?_
        refine pE_ldc2 dX12_readLine_128 kcX12_205 ?_
        rw [show (1685217655 : Int64) = mwJ (kwL 18) from mwk.2.2.2.2.2.2.2.2.2.2.2.2.2.2.2.2.symm]
        refine pE_iconst (v := nI 0) dX12_readLine_131 rfl ?_
        refine pE_sipush (v := nI 999) dX12_readLine_132 rfl ?_
        refine pE_callV (d' := 4) (as := [_, _, _]) dX12_readLine_135 lkX12_241 (cwX12_told _ _) ivX12_told ⟨_, rfl, rfl⟩ (by first | assumption | rfl) rfl rfl (Nat.le_of_ble_eq_true rfl) (by decide) pKK ?_
        refine M_X12_told (hT.l (sML.rf.ps (by omega))) ((hr.rd).fr (fun k hk => by rw [pu_at, if_neg (by omega)])) (show 18 ∈ ownI by decide) (lo := 0) (hi := 999) (by omega) (by omega) (fun I2 J2 x x2 y2 z2 w2 => ?_)
        have hst : nxW B n 18 (sOf B n p) = stp B n p := by unfold sOf; rw [if_neg hk, nxW, if_pos w18]
        rw [hst] at z2 w2
        refine pE_putI dX12_readLine_138 flX12_341 ftX12 fiX12_40 rfl rfl (by first | assumption | rfl) ?_
        refine pE_goto (tgt := 149) dX12_readLine_141 (by decide) ?_
        have hfr : ∀ c k, ¬ (c = 67 ∧ (k = 44 ∨ k = 40 ∨ k = 2 ∨ k = 3 ∨ k = 4 ∨ (6 ≤ k ∧ k ≤ 8))) → pu I2 67 40 x c k = I c k := fun c k z => by
          rw [pu_at, if_neg (by omega), x2 c k (by omega), pu_at, if_neg (by omega)]
        refine L_X12_line149 (R := ln1 B n p false D) hT (fun c k a b d e f => hfr c k (fun z => a ⟨z.1, by omega⟩)) y2.n (by rw [ln1_D w18 h18]; exact z2.fr (fun k hk => by rw [pu_at, if_neg (by omega)])) ?_ hq
        rw [ln1_D w18 h18]
        intro q e
        obtain ⟨a, b, c, d, e2, f, g2⟩ := hD
        have hx0 := w2 q e
        refine ⟨?_, (hfr _ _ (by omega)).trans b, (hfr _ _ (by omega)).trans c, ?_, e2.m y2, fun w hw => (f w hw).fr (hfr _ _ (by omega)) (fun i _ => ⟨hfr _ _ (by omega), hfr _ _ (by omega)⟩), fun w hw => (g2 w hw).fr (hfr _ _ (by omega)) (fun i _ => ⟨hfr _ _ (by omega), hfr _ _ (by omega)⟩)⟩
        · obtain ⟨a1, a2, a3, a4, a5, a6⟩ := a
          show mHn (upN D.1 3 (vlN B n (stp B n p))) _
          refine ⟨?_, ?_, ?_, ?_, ?_, fun j hj => ?_⟩
          · rw [hfr _ _ (by omega), upN_n (by omega)]; exact a1
          · rw [hfr _ _ (by omega), upN_n (by omega)]; exact a2
          · rw [hfr _ _ (by omega), upN_n (by omega)]; exact a3
          · rw [pu_at, if_pos ⟨rfl, rfl⟩, upN_e]; exact hx0
          · rw [hfr _ _ (by omega), upN_n (by omega)]; exact a5
          · rw [upN_n (by omega)] at hj
            rw [hfr _ _ (by omega), hfr _ _ (by omega), hfr _ _ (by omega), hfr _ _ (by omega), hfr _ _ (by omega), upN_n (by omega), upN_n (by omega), upN_n (by omega), upN_n (by omega), upN_n (by omega)]; exact a6 j hj
        · rw [pu_at, if_neg (by omega), x2 _ _ (by omega), pu_at, if_pos ⟨rfl, rfl⟩]; rfl
    · rw [if_neg h18] at hdr
      refine pE_aload_n dX12_readLine_114 rfl rfl ?_
      refine pE_getI dX12_readLine_115 flX12_338 rfl (Or.inr rfl) (by first | assumption | rfl) ?_
      rw [hdr]
      refine pE_if_ne (tgt := 144) dX12_readLine_118 (by decide) (fun h118 => ?_) (fun h118 => ?_)
      · have g118 := nq_ne0 (by omega) h118
        exact L_X12_line144 hT hr hk hD hrD h3 h10 h17 (fun z => h18 z.2) hq
      · have g118 := nq_eq0 (by omega) h118
        omega
  · refine pE_if_eq_t (tgt := 144) dX12_readLine_111 (by decide) nI_0 ?_
    exact L_X12_line144 hT hr hk hD hrD h3 h10 h17 (fun z => w18 z.1) hq
set_option maxHeartbeats 400000 in
set_option maxRecDepth 100000 in
theorem L_X12_line77 {l : Launch} {X : pX} {t g : Nat} {I : pHI} {J : pHJ} {Q : pQ} {n p : Nat} {B : Nat → Nat} {D : pDt} (hT : tpM I n B) (hr : mR0 B n p I J) (hk : tK B n p ≠ 1) (hD : mDt I J D) (hrD : rDt D) (h3 : ¬ (tkWb B n p 3 = true ∧ D.1 1 < 8)) (h10 : ¬ (tkWb B n p 10 = true ∧ D.2.2.1 = none)) (hq : ∀ I1 J1, sML I I1 → jN J J1 → I1 67 43 = nI 1 → mRd B n I1 J1 (lnL B n p false D).1 → (∀ q, (lnL B n p false D).1 = .inr q → mDt I1 J1 (lnL B n p false D).2) → Q none I1 J1 (pR t g)) : pE l X mX12_readLine 7 pK 77 [some (.ref 67)] [] pK I J (pR t g) Q := by
  have hp := hr.2.2.1
  have hD8 := hrD.2.1
  refine pE_aload_n dX12_readLine_77 rfl rfl ?_
  refine pE_ldc2 dX12_readLine_78 kcX12_203 ?_
  rw [show (470021465459 : Int64) = mwJ (kwL 17) from mwk.2.2.2.2.2.2.2.2.2.2.2.2.2.2.2.1.symm]
  refine pE_callV (d' := 0) (as := [_]) dX12_readLine_81 lkX12_223 (cwX12_isWord _ _) ivX12_isWord ⟨_, rfl, rfl⟩ (by first | assumption | rfl) rfl rfl (Nat.le_of_ble_eq_true rfl) (by decide) pKK ?_
  refine M_X12_isWord hr (show 17 ∈ ownI by decide) (fun w17 => ?_) (fun w17 => ?_)
  · refine pE_if_eq_f (tgt := 104) dX12_readLine_84 (by decide) nI_1n0 ?_
    have hdr := hD.2.2.1
    have hu4 := hrD.2.2.2.2.1
    by_cases hno : D.2.2.2.1 = none
    · rw [if_pos hno] at hdr
      have hu0 : D.1 4 ≤ 30 := by
        rw [if_pos hno] at hu4
        split at hu4 <;> omega
      refine pE_aload_n dX12_readLine_87 rfl rfl ?_
      refine pE_getR dX12_readLine_88 flX12_45 rfl (by first | assumption | rfl) (by first | assumption | rfl) ?_
      refine pE_iconst (v := nI 1) dX12_readLine_91 rfl ?_
      refine pE_zaloadN dX12_readLine_92 (by first | assumption | rfl) (by first | assumption | omega) (by omega) ?_
      rw [hdr]
      refine pE_if_ne (tgt := 104) dX12_readLine_93 (by decide) (fun h93 => ?_) (fun h93 => ?_)
      · have g93 := nq_ne0 (by omega) h93
        omega
      · have g93 := nq_eq0 (by omega) h93
        refine pE_aload_n dX12_readLine_96 rfl rfl ?_
        refine pE_iconst (v := nI 1) dX12_readLine_97 rfl ?_
        refine pE_callV (d' := 5) (as := [_]) dX12_readLine_98 lkX12_335 (cwX12_formula _ _) ivX12_formula ⟨_, rfl, rfl⟩ (by first | assumption | rfl) rfl rfl (Nat.le_of_ble_eq_true rfl) (by decide) pKK ?_
        refine M_X12_formula (w := 1) (u0 := D.1 4) hT (by omega) hu0 hr hk hD.1.2.2.2.2.1 (fun I1 J1 x1 y1 z1 => ?_)
        refine pE_goto (tgt := 149) dX12_readLine_101 (by decide) ?_
        have hx0 : sML I I1 := (sML.rf.pa (Or.inl rfl)).tr x1.l
        have hfr : ∀ c k, ¬ (c = 67 ∧ (k = 2 ∨ k = 3 ∨ k = 4 ∨ (6 ≤ k ∧ k ≤ 8) ∨ (20 ≤ k ∧ k ≤ 25 ∧ k ≠ 23))) → ¬ ((c = 70 ∨ c = 71) ∧ 320 * 1 ≤ k ∧ k < 320 * 1 + 320) → ¬ (c = 72 ∧ k = 1) → c ≠ 76 → ¬ (c = 78 ∧ k = 1) → I1 c k = I c k := fun c k a b d e f => by
          rw [x1 c k a b d e, pu_at, if_neg f]
        have h78 : I1 78 1 = nI 1 := by rw [x1 78 1 (by omega) (by omega) (by omega) (by omega), pu_at, if_pos ⟨rfl, rfl⟩]
        obtain ⟨a, b, c, d, e2, f, g2⟩ := hD
        change foR B n 1 (D.1 4) (foP B n p) I1 J1 at z1
        rcases z1 with ⟨e, e1, e3⟩ | ⟨p', o, u, e1, e3, e4, e5, e6⟩
        · refine L_X12_line149 (R := ln1 B n p false D) hT hx0 y1.n (by rw [ln1_M w17 hno, e1]; exact e3) ?_ hq
          rw [ln1_M w17 hno, e1]
          exact fun q h => by cases h
        · have hs' : sOf B n p' = .inr p' := by unfold sOf; rw [if_neg e4]
          refine L_X12_line149 (R := ln1 B n p false D) hT hx0 y1.n (by rw [ln1_M w17 hno, e1]; show mRd B n I1 J1 (.inr p'); rw [← hs']; exact e3.rd) ?_ hq
          rw [ln1_M w17 hno, e1]
          intro q h
          have hlen : ∀ w, (D.2.2.1 = some w ∨ D.2.2.2.1 = some w) → w.length ≤ 269 := fun w hw => by
            rcases hw with z | z
            · exact (hrD.2.2.2.2.2.2.2.2.1 w z).2.1
            · exact (hrD.2.2.2.2.2.2.2.2.2 w z).2.1
          refine ⟨?_, (hfr _ _ (by omega) (by omega) (by omega) (by omega) (by omega)).trans b, h78, (hfr _ _ (by omega) (by omega) (by omega) (by omega) (by omega)).trans d, e2.m y1, fun w hw => (f w hw).fr (hfr _ _ (by omega) (by omega) (by omega) (by omega) (by omega)) (fun i hi => by have hl := hlen w (Or.inl hw); exact ⟨hfr _ _ (by omega) (by omega) (by omega) (by omega) (by omega), hfr _ _ (by omega) (by omega) (by omega) (by omega) (by omega)⟩), fun w hw => by cases hw; exact e5⟩
          obtain ⟨a1, a2, a3, a4, a5, a6⟩ := a
          show mHn (upN D.1 4 (D.1 4 + u)) _
          refine ⟨?_, ?_, ?_, ?_, ?_, fun j hj => ?_⟩
          · rw [hfr _ _ (by omega) (by omega) (by omega) (by omega) (by omega), upN_n (by omega)]; exact a1
          · rw [hfr _ _ (by omega) (by omega) (by omega) (by omega) (by omega), upN_n (by omega)]; exact a2
          · rw [hfr _ _ (by omega) (by omega) (by omega) (by omega) (by omega), upN_n (by omega)]; exact a3
          · rw [hfr _ _ (by omega) (by omega) (by omega) (by omega) (by omega), upN_n (by omega)]; exact a4
          · rw [upN_e]; exact e6
          · rw [upN_n (by omega)] at hj
            rw [hfr _ _ (by omega) (by omega) (by omega) (by omega) (by omega), hfr _ _ (by omega) (by omega) (by omega) (by omega) (by omega), hfr _ _ (by omega) (by omega) (by omega) (by omega) (by omega), hfr _ _ (by omega) (by omega) (by omega) (by omega) (by omega), hfr _ _ (by omega) (by omega) (by omega) (by omega) (by omega), upN_n (by omega), upN_n (by omega), upN_n (by omega), upN_n (by omega), upN_n (by omega)]; exact a6 j hj
    · rw [if_neg hno] at hdr
      refine pE_aload_n dX12_readLine_87 rfl rfl ?_
      refine pE_getR dX12_readLine_88 flX12_45 rfl (by first | assumption | rfl) (by first | assumption | rfl) ?_
      refine pE_iconst (v := nI 1) dX12_readLine_91 rfl ?_
      refine pE_zaloadN dX12_readLine_92 (by first | assumption | rfl) (by first | assumption | omega) (by omega) ?_
      rw [hdr]
      refine pE_if_ne (tgt := 104) dX12_readLine_93 (by decide) (fun h93 => ?_) (fun h93 => ?_)
      · have g93 := nq_ne0 (by omega) h93
        exact L_X12_line104 hT hr hk hD hrD h3 h10 (fun z => hno z.2) hq
      · have g93 := nq_eq0 (by omega) h93
        omega
  · refine pE_if_eq_t (tgt := 104) dX12_readLine_84 (by decide) nI_0 ?_
    exact L_X12_line104 hT hr hk hD hrD h3 h10 (fun z => w17 z.1) hq
set_option maxHeartbeats 400000 in
set_option maxRecDepth 100000 in
theorem L_X12_line50 {l : Launch} {X : pX} {t g : Nat} {I : pHI} {J : pHJ} {Q : pQ} {n p : Nat} {B : Nat → Nat} {D : pDt} (hT : tpM I n B) (hr : mR0 B n p I J) (hk : tK B n p ≠ 1) (hD : mDt I J D) (hrD : rDt D) (h3 : ¬ (tkWb B n p 3 = true ∧ D.1 1 < 8)) (hq : ∀ I1 J1, sML I I1 → jN J J1 → I1 67 43 = nI 1 → mRd B n I1 J1 (lnL B n p false D).1 → (∀ q, (lnL B n p false D).1 = .inr q → mDt I1 J1 (lnL B n p false D).2) → Q none I1 J1 (pR t g)) : pE l X mX12_readLine 7 pK 50 [some (.ref 67)] [] pK I J (pR t g) Q := by
  have hp := hr.2.2.1
  have hD8 := hrD.2.1
  refine pE_aload_n dX12_readLine_50 rfl rfl ?_
  refine pE_ldc2 dX12_readLine_51 kcX12_201 ?_
  rw [show (109330362692723 : Int64) = mwJ (kwL 10) from mwk.2.2.2.2.2.2.2.2.1.symm]
  refine pE_callV (d' := 0) (as := [_]) dX12_readLine_54 lkX12_223 (cwX12_isWord _ _) ivX12_isWord ⟨_, rfl, rfl⟩ (by first | assumption | rfl) rfl rfl (Nat.le_of_ble_eq_true rfl) (by decide) pKK ?_
  refine M_X12_isWord hr (show 10 ∈ ownI by decide) (fun w10 => ?_) (fun w10 => ?_)
  · refine pE_if_eq_f (tgt := 77) dX12_readLine_57 (by decide) nI_1n0 ?_
    have hdr := hD.2.1
    have hu4 := hrD.2.2.2.2.1
    by_cases hno : D.2.2.1 = none
    · rw [if_pos hno] at hdr
      have hu0 : D.1 4 ≤ 30 := by
        rw [if_pos hno] at hu4
        split at hu4 <;> omega
      refine pE_aload_n dX12_readLine_60 rfl rfl ?_
      refine pE_getR dX12_readLine_61 flX12_45 rfl (by first | assumption | rfl) (by first | assumption | rfl) ?_
      refine pE_iconst (v := nI 0) dX12_readLine_64 rfl ?_
      refine pE_zaloadN dX12_readLine_65 (by first | assumption | rfl) (by first | assumption | omega) (by omega) ?_
      rw [hdr]
      refine pE_if_ne (tgt := 77) dX12_readLine_66 (by decide) (fun h66 => ?_) (fun h66 => ?_)
      · have g66 := nq_ne0 (by omega) h66
        omega
      · have g66 := nq_eq0 (by omega) h66
        refine pE_aload_n dX12_readLine_69 rfl rfl ?_
        refine pE_iconst (v := nI 0) dX12_readLine_70 rfl ?_
        refine pE_callV (d' := 5) (as := [_]) dX12_readLine_71 lkX12_335 (cwX12_formula _ _) ivX12_formula ⟨_, rfl, rfl⟩ (by first | assumption | rfl) rfl rfl (Nat.le_of_ble_eq_true rfl) (by decide) pKK ?_
        refine M_X12_formula (w := 0) (u0 := D.1 4) hT (by omega) hu0 hr hk hD.1.2.2.2.2.1 (fun I1 J1 x1 y1 z1 => ?_)
        refine pE_goto (tgt := 149) dX12_readLine_74 (by decide) ?_
        have hx0 : sML I I1 := (sML.rf.pa (Or.inl rfl)).tr x1.l
        have hfr : ∀ c k, ¬ (c = 67 ∧ (k = 2 ∨ k = 3 ∨ k = 4 ∨ (6 ≤ k ∧ k ≤ 8) ∨ (20 ≤ k ∧ k ≤ 25 ∧ k ≠ 23))) → ¬ ((c = 70 ∨ c = 71) ∧ 320 * 0 ≤ k ∧ k < 320 * 0 + 320) → ¬ (c = 72 ∧ k = 0) → c ≠ 76 → ¬ (c = 78 ∧ k = 0) → I1 c k = I c k := fun c k a b d e f => by
          rw [x1 c k a b d e, pu_at, if_neg f]
        have h78 : I1 78 0 = nI 1 := by rw [x1 78 0 (by omega) (by omega) (by omega) (by omega), pu_at, if_pos ⟨rfl, rfl⟩]
        obtain ⟨a, b, c, d, e2, f, g2⟩ := hD
        change foR B n 0 (D.1 4) (foP B n p) I1 J1 at z1
        rcases z1 with ⟨e, e1, e3⟩ | ⟨p', o, u, e1, e3, e4, e5, e6⟩
        · refine L_X12_line149 (R := ln1 B n p false D) hT hx0 y1.n (by rw [ln1_C w10 hno, e1]; exact e3) ?_ hq
          rw [ln1_C w10 hno, e1]
          exact fun q h => by cases h
        · have hs' : sOf B n p' = .inr p' := by unfold sOf; rw [if_neg e4]
          refine L_X12_line149 (R := ln1 B n p false D) hT hx0 y1.n (by rw [ln1_C w10 hno, e1]; show mRd B n I1 J1 (.inr p'); rw [← hs']; exact e3.rd) ?_ hq
          rw [ln1_C w10 hno, e1]
          intro q h
          have hlen : ∀ w, (D.2.2.1 = some w ∨ D.2.2.2.1 = some w) → w.length ≤ 269 := fun w hw => by
            rcases hw with z | z
            · exact (hrD.2.2.2.2.2.2.2.2.1 w z).2.1
            · exact (hrD.2.2.2.2.2.2.2.2.2 w z).2.1
          refine ⟨?_, h78, (hfr _ _ (by omega) (by omega) (by omega) (by omega) (by omega)).trans c, (hfr _ _ (by omega) (by omega) (by omega) (by omega) (by omega)).trans d, e2.m y1, fun w hw => by cases hw; exact e5, fun w hw => (g2 w hw).fr (hfr _ _ (by omega) (by omega) (by omega) (by omega) (by omega)) (fun i hi => by have hl := hlen w (Or.inr hw); exact ⟨hfr _ _ (by omega) (by omega) (by omega) (by omega) (by omega), hfr _ _ (by omega) (by omega) (by omega) (by omega) (by omega)⟩)⟩
          obtain ⟨a1, a2, a3, a4, a5, a6⟩ := a
          show mHn (upN D.1 4 (D.1 4 + u)) _
          refine ⟨?_, ?_, ?_, ?_, ?_, fun j hj => ?_⟩
          · rw [hfr _ _ (by omega) (by omega) (by omega) (by omega) (by omega), upN_n (by omega)]; exact a1
          · rw [hfr _ _ (by omega) (by omega) (by omega) (by omega) (by omega), upN_n (by omega)]; exact a2
          · rw [hfr _ _ (by omega) (by omega) (by omega) (by omega) (by omega), upN_n (by omega)]; exact a3
          · rw [hfr _ _ (by omega) (by omega) (by omega) (by omega) (by omega), upN_n (by omega)]; exact a4
          · rw [upN_e]; exact e6
          · rw [upN_n (by omega)] at hj
            rw [hfr _ _ (by omega) (by omega) (by omega) (by omega) (by omega), hfr _ _ (by omega) (by omega) (by omega) (by omega) (by omega), hfr _ _ (by omega) (by omega) (by omega) (by omega) (by omega), hfr _ _ (by omega) (by omega) (by omega) (by omega) (by omega), hfr _ _ (by omega) (by omega) (by omega) (by omega) (by omega), upN_n (by omega), upN_n (by omega), upN_n (by omega), upN_n (by omega), upN_n (by omega)]; exact a6 j hj
    · rw [if_neg hno] at hdr
      refine pE_aload_n dX12_readLine_60 rfl rfl ?_
      refine pE_getR dX12_readLine_61 flX12_45 rfl (by first | assumption | rfl) (by first | assumption | rfl) ?_
      refine pE_iconst (v := nI 0) dX12_readLine_64 rfl ?_
      refine pE_zaloadN dX12_readLine_65 (by first | assumption | rfl) (by first | assumption | omega) (by omega) ?_
      rw [hdr]
      refine pE_if_ne (tgt := 77) dX12_readLine_66 (by decide) (fun h66 => ?_) (fun h66 => ?_)
      · have g66 := nq_ne0 (by omega) h66
        exact L_X12_line77 hT hr hk hD hrD h3 (fun z => hno z.2) hq
      · have g66 := nq_eq0 (by omega) h66
        omega
  · refine pE_if_eq_t (tgt := 77) dX12_readLine_57 (by decide) nI_0 ?_
    exact L_X12_line77 hT hr hk hD hrD h3 (fun z => w10 z.1) hq
set_option maxHeartbeats 400000 in
set_option maxRecDepth 100000 in
theorem L_X12_line24 {l : Launch} {X : pX} {t g : Nat} {I : pHI} {J : pHJ} {Q : pQ} {n p : Nat} {B : Nat → Nat} {D : pDt} (hT : tpM I n B) (hr : mR0 B n p I J) (hk : tK B n p ≠ 1) (hD : mDt I J D) (hrD : rDt D)  (hq : ∀ I1 J1, sML I I1 → jN J J1 → I1 67 43 = nI 1 → mRd B n I1 J1 (lnL B n p false D).1 → (∀ q, (lnL B n p false D).1 = .inr q → mDt I1 J1 (lnL B n p false D).2) → Q none I1 J1 (pR t g)) : pE l X mX12_readLine 7 pK 24 [some (.ref 67)] [] pK I J (pR t g) Q := by
  have hp := hr.2.2.1
  have hD8 := hrD.2.1
  refine pE_aload_n dX12_readLine_24 rfl rfl ?_
  refine pE_ldc2 dX12_readLine_25 kcX12_189 ?_
  rw [show (127978992397940 : Int64) = mwJ (kwL 3) from mwk.2.2.1.symm]
  refine pE_callV (d' := 0) (as := [_]) dX12_readLine_28 lkX12_223 (cwX12_isWord _ _) ivX12_isWord ⟨_, rfl, rfl⟩ (by first | assumption | rfl) rfl rfl (Nat.le_of_ble_eq_true rfl) (by decide) pKK ?_
  refine M_X12_isWord hr (show 3 ∈ ownI by decide) (fun w3 => ?_) (fun w3 => ?_)
  · refine pE_if_eq_f (tgt := 50) dX12_readLine_31 (by decide) nI_1n0 ?_
    refine pE_aload_n dX12_readLine_34 rfl rfl ?_
    refine pE_getI dX12_readLine_35 flX12_248 rfl (Or.inl rfl) (by first | assumption | rfl) ?_
    rw [hD.1.2.2.1]
    refine pE_bipush (v := nI 8) dX12_readLine_38 rfl ?_
    refine pE_icmp_ge (tgt := 50) dX12_readLine_40 (by decide) (fun h40 => ?_) (fun h40 => ?_)
    · have g40 := nq_le (by omega) (by omega) h40
      have h8 : ¬ D.1 1 < 8 := by omega
      first
      | exact L_X12_line50 hT hr hk hD hrD (fun z => h8 z.2) hq
      | exact L_X12_line50 hT hr hk hD hrD (fun z => w3 z.1) hq
    · have g40 := nq_nle (by omega) (by omega) h40
      have h8 : D.1 1 < 8 := by omega
      refine pE_aload_n dX12_readLine_43 rfl rfl ?_
      refine pE_callV (d' := 6) (as := []) dX12_readLine_44 lkX12_332 (cwX12_readTenant _ _) ivX12_readTenant ⟨_, rfl, rfl⟩ (by first | assumption | rfl) rfl rfl (Nat.le_of_ble_eq_true rfl) (by decide) pKK ?_
      refine M_X12_readTenant hT hr hk hD hrD h8 (fun I1 J1 x1 y1 z1 c1 => ?_)
      refine pE_goto (tgt := 149) dX12_readLine_47 (by decide) ?_
      exact L_X12_line149 (R := ln1 B n p false D) hT x1 y1 (by rw [ln1_T w3 h8]; exact z1) (by rw [ln1_T w3 h8]; exact c1) hq
  · refine pE_if_eq_t (tgt := 50) dX12_readLine_31 (by decide) nI_0 ?_
    first
    | exact L_X12_line50 hT hr hk hD hrD (fun z => h8 z.2) hq
    | exact L_X12_line50 hT hr hk hD hrD (fun z => w3 z.1) hq
set_option maxHeartbeats 400000 in
set_option maxRecDepth 100000 in
theorem M_X12_readLineF {l : Launch} {X : pX} {t g : Nat} {I : pHI} {J : pHJ} {Q : pQ} {n p : Nat} {B : Nat → Nat} {D : pDt} (hT : tpM I n B) (hr : mR0 B n p I J) (hk : tK B n p ≠ 1) (hD : mDt I J D) (hrD : rDt D) (h43 : I 67 43 = nI 1) (hq : ∀ I1 J1, sML I I1 → jN J J1 → I1 67 43 = nI 1 → mRd B n I1 J1 (lnL B n p false D).1 → (∀ q, (lnL B n p false D).1 = .inr q → mDt I1 J1 (lnL B n p false D).2) → Q none I1 J1 (pR t g)) : pM l X yX12_readLine mX12_readLine 7 [.ref 67] pK pK I J (pR t g) Q := by
  refine pM_of rfl (fun h => by cases h) rfl pKM (Nat.le_of_ble_eq_true rfl) ?_
  refine pE_aload_n dX12_readLine_0 rfl rfl ?_
  refine pE_ldc2 dX12_readLine_1 kcX12_185 ?_
  rw [show (32497644331170163 : Int64) = mwJ (kwL 1) from mwk.1.symm]
  refine pE_callV (d' := 0) (as := [_]) dX12_readLine_4 lkX12_223 (cwX12_isWord _ _) ivX12_isWord ⟨_, rfl, rfl⟩ (by first | assumption | rfl) rfl rfl (Nat.le_of_ble_eq_true rfl) (by decide) pKK ?_
  refine M_X12_isWord hr (show 1 ∈ ownI by decide) (fun w1 => ?_) (fun w1 => ?_)
  · refine pE_if_eq_f (tgt := 24) dX12_readLine_7 (by decide) nI_1n0 ?_
    refine pE_aload_n dX12_readLine_10 rfl rfl ?_
    refine pE_getI dX12_readLine_11 flX12_325 rfl (Or.inr rfl) (by first | assumption | rfl) ?_
    rw [h43]
    refine pE_if_ne (tgt := 24) dX12_readLine_14 (by decide) (fun h14 => ?_) (fun h14 => ?_)
    · have g14 := nq_ne0 (by omega) h14
      exact L_X12_line24 hT hr hk hD hrD hq
    · have g14 := nq_eq0 (by omega) h14
      omega
  · refine pE_if_eq_t (tgt := 24) dX12_readLine_7 (by decide) nI_0 ?_
    exact L_X12_line24 hT hr hk hD hrD hq
set_option maxHeartbeats 400000 in
set_option maxRecDepth 100000 in
theorem M_X12_readLineT {l : Launch} {X : pX} {t g : Nat} {I : pHI} {J : pHJ} {Q : pQ} {n p : Nat} {B : Nat → Nat} {D : pDt} (hT : tpM I n B) (hr : mR0 B n p I J) (hk : tK B n p ≠ 1) (hD : mDt I J D) (hrD : rDt D) (h43 : I 67 43 = nI 0) (hq : ∀ I1 J1, sML I I1 → jN J J1 → I1 67 43 = nI 1 → mRd B n I1 J1 (lnL B n p true D).1 → (∀ q, (lnL B n p true D).1 = .inr q → mDt I1 J1 (lnL B n p true D).2) → Q none I1 J1 (pR t g)) : pM l X yX12_readLine mX12_readLine 7 [.ref 67] pK pK I J (pR t g) Q := by
  refine pM_of rfl (fun h => by cases h) rfl pKM (Nat.le_of_ble_eq_true rfl) ?_
  refine pE_aload_n dX12_readLine_0 rfl rfl ?_
  refine pE_ldc2 dX12_readLine_1 kcX12_185 ?_
  rw [show (32497644331170163 : Int64) = mwJ (kwL 1) from mwk.1.symm]
  refine pE_callV (d' := 0) (as := [_]) dX12_readLine_4 lkX12_223 (cwX12_isWord _ _) ivX12_isWord ⟨_, rfl, rfl⟩ (by first | assumption | rfl) rfl rfl (Nat.le_of_ble_eq_true rfl) (by decide) pKK ?_
  refine M_X12_isWord hr (show 1 ∈ ownI by decide) (fun w1 => ?_) (fun w1 => ?_)
  · refine pE_if_eq_f (tgt := 24) dX12_readLine_7 (by decide) nI_1n0 ?_
    refine pE_aload_n dX12_readLine_10 rfl rfl ?_
    refine pE_getI dX12_readLine_11 flX12_325 rfl (Or.inr rfl) (by first | assumption | rfl) ?_
    rw [h43]
    refine pE_if_ne (tgt := 24) dX12_readLine_14 (by decide) (fun h14 => ?_) (fun h14 => ?_)
    · have g14 := nq_ne0 (by omega) h14
      omega
    · have g14 := nq_eq0 (by omega) h14
      refine pE_aload_n dX12_readLine_17 rfl rfl ?_
      refine pE_callV (d' := 6) (as := []) dX12_readLine_18 lkX12_329 (cwX12_readStoreys _ _) ivX12_readStoreys ⟨_, rfl, rfl⟩ (by first | assumption | rfl) rfl rfl (Nat.le_of_ble_eq_true rfl) (by decide) pKK ?_
      refine M_X12_readStoreys hT hr hk hD (fun I1 J1 x1 y1 z1 c1 => ?_)
      refine pE_goto (tgt := 149) dX12_readLine_21 (by decide) ?_
      have e1 : ln1 B n p true D = stL B n p D := by unfold ln1; rw [if_pos ⟨w1, rfl⟩]
      exact L_X12_line149 (R := ln1 B n p true D) hT x1 y1 (by rw [e1]; exact z1) (by rw [e1]; exact c1) hq
  · refine pE_if_eq_t (tgt := 24) dX12_readLine_7 (by decide) nI_0 ?_
    rw [show lnL B n p true D = lnL B n p false D from by rw [lnL, lnL, ln1_b w1]] at hq
    exact L_X12_line24 hT hr hk hD hrD hq
set_option maxHeartbeats 400000 in
set_option maxRecDepth 100000 in
theorem M_X12_readLineB {l : Launch} {X : pX} {t g : Nat} {I : pHI} {J : pHJ} {Q : pQ} {n p : Nat} {B : Nat → Nat} (hT : tpM I n B) (hr : mR0 B n p I J) (hk : tK B n p = 1) (hq : ∀ I1, sML I I1 → mFa I1 (1, tQ B n p) → Q none I1 J (pR t g)) : pM l X yX12_readLine mX12_readLine 7 [.ref 67] pK pK I J (pR t g) Q := by
  refine pM_of rfl (fun h => by cases h) rfl pKM (Nat.le_of_ble_eq_true rfl) ?_
  refine pE_aload_n dX12_readLine_0 rfl rfl ?_
  refine pE_ldc2 dX12_readLine_1 kcX12_185 ?_
  rw [show (32497644331170163 : Int64) = mwJ (kwL 1) from mwk.1.symm]
  refine pE_callV (d' := 0) (as := [_]) dX12_readLine_4 lkX12_223 (cwX12_isWord _ _) ivX12_isWord ⟨_, rfl, rfl⟩ (by first | assumption | rfl) rfl rfl (Nat.le_of_ble_eq_true rfl) (by decide) pKK ?_
  refine M_X12_isWord hr (show 1 ∈ ownI by decide) (fun w => ?_) (fun w => ?_)
  · exact absurd (tkWb_k w) (by omega)
  · refine pE_if_eq_t (tgt := 24) dX12_readLine_7 (by decide) nI_0 ?_
    refine pE_aload_n dX12_readLine_24 rfl rfl ?_
    refine pE_ldc2 dX12_readLine_25 kcX12_189 ?_
    rw [show (127978992397940 : Int64) = mwJ (kwL 3) from mwk.2.2.1.symm]
    refine pE_callV (d' := 0) (as := [_]) dX12_readLine_28 lkX12_223 (cwX12_isWord _ _) ivX12_isWord ⟨_, rfl, rfl⟩ (by first | assumption | rfl) rfl rfl (Nat.le_of_ble_eq_true rfl) (by decide) pKK ?_
    refine M_X12_isWord hr (show 3 ∈ ownI by decide) (fun w => ?_) (fun w => ?_)
    · exact absurd (tkWb_k w) (by omega)
    · refine pE_if_eq_t (tgt := 50) dX12_readLine_31 (by decide) nI_0 ?_
      refine pE_aload_n dX12_readLine_50 rfl rfl ?_
      refine pE_ldc2 dX12_readLine_51 kcX12_201 ?_
      rw [show (109330362692723 : Int64) = mwJ (kwL 10) from mwk.2.2.2.2.2.2.2.2.1.symm]
      refine pE_callV (d' := 0) (as := [_]) dX12_readLine_54 lkX12_223 (cwX12_isWord _ _) ivX12_isWord ⟨_, rfl, rfl⟩ (by first | assumption | rfl) rfl rfl (Nat.le_of_ble_eq_true rfl) (by decide) pKK ?_
      refine M_X12_isWord hr (show 10 ∈ ownI by decide) (fun w => ?_) (fun w => ?_)
      · exact absurd (tkWb_k w) (by omega)
      · refine pE_if_eq_t (tgt := 77) dX12_readLine_57 (by decide) nI_0 ?_
        refine pE_aload_n dX12_readLine_77 rfl rfl ?_
        refine pE_ldc2 dX12_readLine_78 kcX12_203 ?_
        rw [show (470021465459 : Int64) = mwJ (kwL 17) from mwk.2.2.2.2.2.2.2.2.2.2.2.2.2.2.2.1.symm]
        refine pE_callV (d' := 0) (as := [_]) dX12_readLine_81 lkX12_223 (cwX12_isWord _ _) ivX12_isWord ⟨_, rfl, rfl⟩ (by first | assumption | rfl) rfl rfl (Nat.le_of_ble_eq_true rfl) (by decide) pKK ?_
        refine M_X12_isWord hr (show 17 ∈ ownI by decide) (fun w => ?_) (fun w => ?_)
        · exact absurd (tkWb_k w) (by omega)
        · refine pE_if_eq_t (tgt := 104) dX12_readLine_84 (by decide) nI_0 ?_
          refine pE_aload_n dX12_readLine_104 rfl rfl ?_
          refine pE_ldc2 dX12_readLine_105 kcX12_205 ?_
          rw [show (1685217655 : Int64) = mwJ (kwL 18) from mwk.2.2.2.2.2.2.2.2.2.2.2.2.2.2.2.2.symm]
          refine pE_callV (d' := 0) (as := [_]) dX12_readLine_108 lkX12_223 (cwX12_isWord _ _) ivX12_isWord ⟨_, rfl, rfl⟩ (by first | assumption | rfl) rfl rfl (Nat.le_of_ble_eq_true rfl) (by decide) pKK ?_
          refine M_X12_isWord hr (show 18 ∈ ownI by decide) (fun w => ?_) (fun w => ?_)
          · exact absurd (tkWb_k w) (by omega)
          · refine pE_if_eq_t (tgt := 144) dX12_readLine_111 (by decide) nI_0 ?_
            refine pE_aload_n dX12_readLine_144 rfl rfl ?_
            refine pE_iconst (v := nI 2) dX12_readLine_145 rfl ?_
            refine pE_callV (d' := 0) (as := [_]) dX12_readLine_146 lkX12_227 (cwX12_wrong _ _) ivX12_wrong ⟨_, rfl, rfl⟩ (by first | assumption | rfl) rfl rfl (Nat.le_of_ble_eq_true rfl) (by decide) pKK ?_
            refine M_X12_wrong hT hr (by omega) (fun I1 x1 x2 => ?_)
            rw [if_pos hk] at x2
            refine pE_aload_n dX12_readLine_149 rfl rfl ?_
            refine pE_iconst (v := nI 1) dX12_readLine_150 rfl ?_
            refine pE_putB dX12_readLine_151 flX12_325 ftX12 fiX12_43 rfl rfl (by first | assumption | rfl) (by first | exact Or.inl nI_0 | exact Or.inr nI_1' | assumption) ?_
            refine pE_aload_n dX12_readLine_154 rfl rfl ?_
            refine pE_getI dX12_readLine_155 flX12_182 rfl (Or.inl rfl) (by first | assumption | rfl) ?_
            rw [pu_at, if_neg (by omega), x2.1]
            refine pE_if_ne (tgt := 175) dX12_readLine_158 (by decide) (fun h158 => ?_) (fun h158 => ?_)
            · have g158 := nq_ne0 (by omega) h158
              refine pE_aload_n dX12_readLine_175 rfl rfl ?_
              refine pE_getI dX12_readLine_176 flX12_182 rfl (Or.inl rfl) (by first | assumption | rfl) ?_
              rw [pu_at, if_neg (by omega), x2.1]
              refine pE_if_ne (tgt := 186) dX12_readLine_179 (by decide) (fun h179 => ?_) (fun h179 => ?_)
              · have g179 := nq_ne0 (by omega) h179
                refine pE_vret dX12_readLine_186 rfl rfl ?_
                exact hq _ (x1.l.ps (by omega)) (x2.fr (by rw [pu_at, if_neg (by omega)]) (by rw [pu_at, if_neg (by omega)]))
              · have g179 := nq_eq0 (by omega) h179
                omega
            · have g158 := nq_eq0 (by omega) h158
              omega
