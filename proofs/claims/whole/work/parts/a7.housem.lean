/-! a text read by the model as a whole *) -/
def sMA (I I1 : pHI) : Prop := ∀ c k, ¬ (c = 67 ∧ (1 ≤ k ∧ k ≤ 44 ∧ k ≠ 23 ∧ k ≠ 41 ∧ k ≠ 42)) → ¬ (70 ≤ c ∧ c ≤ 72) → c ≠ 76 → c ≠ 78 → ¬ (80 ≤ c ∧ c ≤ 84) → I1 c k = I c k
theorem sML.a {I I1 : pHI} (h : sML I I1) : sMA I I1 := fun c k a b d e f => h c k (fun q => a ⟨q.1, by omega⟩) b d e f
theorem sMA.tr {I I1 I2 : pHI} (h1 : sMA I I1) (h2 : sMA I1 I2) : sMA I I2 := fun c k a b d e f => (h2 c k a b d e f).trans (h1 c k a b d e f)
set_option maxHeartbeats 400000 in
set_option maxRecDepth 100000 in
theorem L_X12_readAllE {l : Launch} {X : pX} {t g : Nat} {I : pHI} {J : pHJ} {Q : pQ} {n : Nat} {B : Nat → Nat} {I0 : pHI} {J0 : pHJ} {e : Nat × Nat} (h1 : ∀ q I1 J1, sMA I0 I1 → jN J0 J1 → (txt B n).1 = .inr q → mDt I1 J1 (txt B n).2 → I1 67 1 = nI 0 → I1 67 2 = nI 0 → I1 67 3 = -1 → Q none I1 J1 (pR t g)) (h0 : ∀ e I1 J1, sMA I0 I1 → jN J0 J1 → (txt B n).1 = .inl e → I1 67 1 = nI 0 → I1 67 2 = nI e.1 → I1 67 3 = nI e.2 → (1 ≤ e.1 ∧ e.1 ≤ 4) → e.2 ≤ 1600 → Q none I1 J1 (pR t g)) (hx : sMA I0 I) (jx : jN J0 J) (h11 : I 67 1 = nI 0) (hf : mFa I e) (he : (txt B n).1 = .inl e) : pE l X mX12_readAll 8 pK 82 [some (.ref 67)] [] pK I J (pR t g) Q := by
  have h14 := hf.2.1
  refine pE_aload_n dX12_readAll_82 rfl rfl ?_
  refine pE_getI dX12_readAll_83 flX12_182 rfl (Or.inl rfl) (by first | assumption | rfl) ?_
  rw [hf.1]
  refine pE_if_ne (tgt := 103) dX12_readAll_86 (by decide) (fun h86 => ?_) (fun h86 => ?_)
  · have g86 := nq_ne0 (by omega) h86
    refine pE_vret dX12_readAll_103 rfl rfl ?_
    exact h0 e I J hx jx he h11 hf.1 hf.2.2.1 hf.2.1 hf.2.2.2
  · have g86 := nq_eq0 (by omega) h86
    omega
set_option maxHeartbeats 400000 in
set_option maxRecDepth 100000 in
theorem L_X12_readAllB {l : Launch} {X : pX} {t g : Nat} {I : pHI} {J : pHJ} {Q : pQ} {n : Nat} {B : Nat → Nat} {I0 : pHI} {J0 : pHJ} {p : Nat} (h1 : ∀ q I1 J1, sMA I0 I1 → jN J0 J1 → (txt B n).1 = .inr q → mDt I1 J1 (txt B n).2 → I1 67 1 = nI 0 → I1 67 2 = nI 0 → I1 67 3 = -1 → Q none I1 J1 (pR t g)) (h0 : ∀ e I1 J1, sMA I0 I1 → jN J0 J1 → (txt B n).1 = .inl e → I1 67 1 = nI 0 → I1 67 2 = nI e.1 → I1 67 3 = nI e.2 → (1 ≤ e.1 ∧ e.1 ≤ 4) → e.2 ≤ 1600 → Q none I1 J1 (pR t g)) (hT : tpM I n B) (hx : sMA I0 I) (jx : jN J0 J) (h11 : I 67 1 = nI 0) (hr : mR0 B n p I J) (hk : tK B n p = 1) (he : (txt B n).1 = .inl (1, tQ B n p)) : pE l X mX12_readAll 8 pK 82 [some (.ref 67)] [] pK I J (pR t g) Q := by
  have hd := mKd_b (B := B) hr.2.2.1
  refine pE_aload_n dX12_readAll_82 rfl rfl ?_
  refine pE_getI dX12_readAll_83 flX12_182 rfl (Or.inl rfl) (by first | assumption | rfl) ?_
  rw [hr.1]
  refine pE_if_ne (tgt := 103) dX12_readAll_86 (by decide) (fun h86 => ?_) (fun h86 => ?_)
  · have g86 := nq_ne0 (by omega) h86
    omega
  · have g86 := nq_eq0 (by omega) h86
    refine pE_aload_n dX12_readAll_89 rfl rfl ?_
    refine pE_getI dX12_readAll_90 flX12_169 rfl (Or.inl rfl) (by first | assumption | rfl) ?_
    rw [hr.2.2.2.1]
    refine pE_if_eq (tgt := 103) dX12_readAll_93 (by decide) (fun h93 => ?_) (fun h93 => ?_)
    · have g93 := nq_eq0 (by omega) h93
      exact absurd g93 (by omega)
    · have g93 := nq_ne0 (by omega) h93
      refine pE_aload_n dX12_readAll_96 rfl rfl ?_
      refine pE_callV (d' := 7) (as := []) dX12_readAll_97 lkX12_344 (cwX12_readLine _ _) ivX12_readLine ⟨_, rfl, rfl⟩ (by first | assumption | rfl) rfl rfl (Nat.le_of_ble_eq_true rfl) (by decide) pKK ?_
      refine M_X12_readLineB hT hr hk (fun I1 x1 x2 => ?_)
      refine pE_goto (tgt := 82) dX12_readAll_100 (by decide) ?_
      exact L_X12_readAllE h1 h0 (hx.tr x1.a) jx ((x1 67 1 (by omega) (by omega) (by omega) (by omega) (by omega)).trans h11) x2 he
set_option maxHeartbeats 400000 in
set_option maxRecDepth 100000 in
theorem L_X12_readAll {l : Launch} {X : pX} {t g : Nat} {I : pHI} {J : pHJ} {Q : pQ} {n : Nat} {B : Nat → Nat} {I0 : pHI} {J0 : pHJ} (h1 : ∀ q I1 J1, sMA I0 I1 → jN J0 J1 → (txt B n).1 = .inr q → mDt I1 J1 (txt B n).2 → I1 67 1 = nI 0 → I1 67 2 = nI 0 → I1 67 3 = -1 → Q none I1 J1 (pR t g)) (h0 : ∀ e I1 J1, sMA I0 I1 → jN J0 J1 → (txt B n).1 = .inl e → I1 67 1 = nI 0 → I1 67 2 = nI e.1 → I1 67 3 = nI e.2 → (1 ≤ e.1 ∧ e.1 ≤ 4) → e.2 ≤ 1600 → Q none I1 J1 (pR t g)) : ∀ (fu : Nat) (m : Nat) (p : Nat) (D : pDt) (I1 : pHI) (J1 : pHJ), m < fu → (tpM I1 n B) → (lns B n m (.inr p) false D = txt B n) → (n < p + m ∧ p ≤ n) → (rDt D) → (false = true → z0 D) → (sMA I0 I1) → (jN J0 J1) → (I1 67 1 = nI 0) → (mR0 B n p I1 J1) → (tK B n p ≠ 1) → (mDt I1 J1 D) → (I1 67 43 = nI 1) → pE l X mX12_readAll 8 pK 82 [some (.ref 67)] [] pK I1 J1 (pR t g) Q := by
  intro fu
  induction fu with
  | zero => intro m p D I1 J1 hn; exact absurd hn (Nat.not_lt_zero _)
  | succ fu ih =>
    intro m p D I1 J1 hn hT hl hm hrD hz hx jx h11 hr hk hD h43
    have hd := mKd_b (B := B) hr.2.2.1
    refine pE_aload_n dX12_readAll_82 rfl rfl ?_
    refine pE_getI dX12_readAll_83 flX12_182 rfl (Or.inl rfl) (by first | assumption | rfl) ?_
    rw [hr.1]
    refine pE_if_ne (tgt := 103) dX12_readAll_86 (by decide) (fun h86 => ?_) (fun h86 => ?_)
    · have g86 := nq_ne0 (by omega) h86
      omega
    · have g86 := nq_eq0 (by omega) h86
      refine pE_aload_n dX12_readAll_89 rfl rfl ?_
      refine pE_getI dX12_readAll_90 flX12_169 rfl (Or.inl rfl) (by first | assumption | rfl) ?_
      rw [hr.2.2.2.1]
      refine pE_if_eq (tgt := 103) dX12_readAll_93 (by decide) (fun h93 => ?_) (fun h93 => ?_)
      · have g93 := nq_eq0 (by omega) h93
        have zk : tK B n p = 0 := hd.2.2.2.2.1.mp g93
        refine pE_vret dX12_readAll_103 rfl rfl ?_
        rw [lns_z zk] at hl
        exact h1 p I1 J1 hx jx (by rw [← hl]) (by rw [← hl]; exact hD) h11 hr.1 hr.2.1
      · have g93 := nq_ne0 (by omega) h93
        have zk : tK B n p ≠ 0 := fun z => by have := hd.2.2.2.2.1.mpr z; omega
        refine pE_aload_n dX12_readAll_96 rfl rfl ?_
        refine pE_callV (d' := 7) (as := []) dX12_readAll_97 lkX12_344 (cwX12_readLine _ _) ivX12_readLine ⟨_, rfl, rfl⟩ (by first | assumption | rfl) rfl rfl (Nat.le_of_ble_eq_true rfl) (by decide) pKK ?_
        refine M_X12_readLineF hT hr hk hD hrD h43 (fun I2 J2 x1 y1 k43 z1 c1 => ?_)
        refine pE_goto (tgt := 82) dX12_readAll_100 (by decide) ?_
        obtain ⟨m, rfl⟩ : ∃ m', m = m' + 1 := ⟨m - 1, by omega⟩
        rw [lns_s zk] at hl
        have h11' : I2 67 1 = nI 0 := (x1 67 1 (by omega) (by omega) (by omega) (by omega) (by omega)).trans h11
        rcases z1 with ⟨e, e1, e2⟩ | ⟨p', e1, e2⟩
        · rw [e1, lns_e] at hl
          exact L_X12_readAllE h1 h0 (hx.tr x1.a) (jx.tr y1) h11' e2 (by rw [← hl])
        · by_cases k1 : tK B n p' = 1
          · have e3 : sOf B n p' = .inl (1, tQ B n p') := by unfold sOf; rw [if_pos k1]
            rw [e1, e3, lns_e] at hl
            exact L_X12_readAllB h1 h0 (hT.l x1) (hx.tr x1.a) (jx.tr y1) h11' e2 k1 (by rw [← hl])
          · have e3 : sOf B n p' = .inr p' := by unfold sOf; rw [if_neg k1]
            rw [e3] at e1
            have k := lnL_lt hm.2 e1
            have kr := lnL_r hm.2 hrD hz e1
            have hc := c1 p' e1
            rw [e1] at hl
            exact ih m p' _ I2 J2 (by omega) (hT.l x1) hl ⟨by omega, k.1⟩ kr (fun z => by cases z) (hx.tr x1.a) (jx.tr y1) h11' e2 k1 hc k43
set_option maxHeartbeats 400000 in
set_option maxRecDepth 100000 in
theorem L_X12_readAllT {l : Launch} {X : pX} {t g : Nat} {I : pHI} {J : pHJ} {Q : pQ} {n : Nat} {B : Nat → Nat} {I0 : pHI} {J0 : pHJ} (h1 : ∀ q I1 J1, sMA I0 I1 → jN J0 J1 → (txt B n).1 = .inr q → mDt I1 J1 (txt B n).2 → I1 67 1 = nI 0 → I1 67 2 = nI 0 → I1 67 3 = -1 → Q none I1 J1 (pR t g)) (h0 : ∀ e I1 J1, sMA I0 I1 → jN J0 J1 → (txt B n).1 = .inl e → I1 67 1 = nI 0 → I1 67 2 = nI e.1 → I1 67 3 = nI e.2 → (1 ≤ e.1 ∧ e.1 ≤ 4) → e.2 ≤ 1600 → Q none I1 J1 (pR t g)) {m p : Nat} {D : pDt} {I1 : pHI} {J1 : pHJ} (hT : tpM I1 n B) (hl : lns B n m (.inr p) true D = txt B n) (hm : n < p + m ∧ p ≤ n) (hrD : rDt D) (hz : true = true → z0 D) (hx : sMA I0 I1) (jx : jN J0 J1) (h11 : I1 67 1 = nI 0) (hr : mR0 B n p I1 J1) (hk : tK B n p ≠ 1) (hD : mDt I1 J1 D) (h43 : I1 67 43 = nI 0) : pE l X mX12_readAll 8 pK 82 [some (.ref 67)] [] pK I1 J1 (pR t g) Q := by
  have hd := mKd_b (B := B) hr.2.2.1
  refine pE_aload_n dX12_readAll_82 rfl rfl ?_
  refine pE_getI dX12_readAll_83 flX12_182 rfl (Or.inl rfl) (by first | assumption | rfl) ?_
  rw [hr.1]
  refine pE_if_ne (tgt := 103) dX12_readAll_86 (by decide) (fun h86 => ?_) (fun h86 => ?_)
  · have g86 := nq_ne0 (by omega) h86
    omega
  · have g86 := nq_eq0 (by omega) h86
    refine pE_aload_n dX12_readAll_89 rfl rfl ?_
    refine pE_getI dX12_readAll_90 flX12_169 rfl (Or.inl rfl) (by first | assumption | rfl) ?_
    rw [hr.2.2.2.1]
    refine pE_if_eq (tgt := 103) dX12_readAll_93 (by decide) (fun h93 => ?_) (fun h93 => ?_)
    · have g93 := nq_eq0 (by omega) h93
      have zk : tK B n p = 0 := hd.2.2.2.2.1.mp g93
      refine pE_vret dX12_readAll_103 rfl rfl ?_
      rw [lns_z zk] at hl
      exact h1 p I1 J1 hx jx (by rw [← hl]) (by rw [← hl]; exact hD) h11 hr.1 hr.2.1
    · have g93 := nq_ne0 (by omega) h93
      have zk : tK B n p ≠ 0 := fun z => by have := hd.2.2.2.2.1.mpr z; omega
      refine pE_aload_n dX12_readAll_96 rfl rfl ?_
      refine pE_callV (d' := 7) (as := []) dX12_readAll_97 lkX12_344 (cwX12_readLine _ _) ivX12_readLine ⟨_, rfl, rfl⟩ (by first | assumption | rfl) rfl rfl (Nat.le_of_ble_eq_true rfl) (by decide) pKK ?_
      refine M_X12_readLineT hT hr hk hD hrD h43 (fun I2 J2 x1 y1 k43 z1 c1 => ?_)
      refine pE_goto (tgt := 82) dX12_readAll_100 (by decide) ?_
      obtain ⟨m, rfl⟩ : ∃ m', m = m' + 1 := ⟨m - 1, by omega⟩
      rw [lns_s zk] at hl
      have h11' : I2 67 1 = nI 0 := (x1 67 1 (by omega) (by omega) (by omega) (by omega) (by omega)).trans h11
      rcases z1 with ⟨e, e1, e2⟩ | ⟨p', e1, e2⟩
      · rw [e1, lns_e] at hl
        exact L_X12_readAllE h1 h0 (hx.tr x1.a) (jx.tr y1) h11' e2 (by rw [← hl])
      · by_cases k1 : tK B n p' = 1
        · have e3 : sOf B n p' = .inl (1, tQ B n p') := by unfold sOf; rw [if_pos k1]
          rw [e1, e3, lns_e] at hl
          exact L_X12_readAllB h1 h0 (hT.l x1) (hx.tr x1.a) (jx.tr y1) h11' e2 k1 (by rw [← hl])
        · have e3 : sOf B n p' = .inr p' := by unfold sOf; rw [if_neg k1]
          rw [e3] at e1
          have k := lnL_lt hm.2 e1
          have kr := lnL_r hm.2 hrD hz e1
          have hc := c1 p' e1
          rw [e1] at hl
          exact L_X12_readAll (I := I) (J := J) h1 h0 (m + 1) m p' _ I2 J2 (by omega) (hT.l x1) hl ⟨by omega, k.1⟩ kr (fun z => by cases z) (hx.tr x1.a) (jx.tr y1) h11' e2 k1 hc k43
set_option maxHeartbeats 400000 in
set_option maxRecDepth 100000 in
theorem M_X12_readAll {l : Launch} {X : pX} {t g : Nat} {I : pHI} {J : pHJ} {Q : pQ} {n : Nat} {B : Nat → Nat} (hTp : mTp I n B) (h1 : ∀ q I1 J1, sMA I I1 → jN J J1 → (txt B n).1 = .inr q → mDt I1 J1 (txt B n).2 → I1 67 1 = nI 0 → I1 67 2 = nI 0 → I1 67 3 = -1 → Q none I1 J1 (pR t g)) (h0 : ∀ e I1 J1, sMA I I1 → jN J J1 → (txt B n).1 = .inl e → I1 67 1 = nI 0 → I1 67 2 = nI e.1 → I1 67 3 = nI e.2 → (1 ≤ e.1 ∧ e.1 ≤ 4) → e.2 ≤ 1600 → Q none I1 J1 (pR t g)) : pM l X yX12_readAll mX12_readAll 8 [.ref 67] pK pK I J (pR t g) Q := by
  refine pM_of rfl (fun h => by cases h) rfl pKM (Nat.le_of_ble_eq_true rfl) ?_
  refine pE_aload_n dX12_readAll_0 rfl rfl ?_
  refine pE_aload_n dX12_readAll_1 rfl rfl ?_
  refine pE_getI dX12_readAll_2 flX12_142 rfl (Or.inl rfl) (by first | assumption | rfl) ?_
  rw [hTp.1]
  refine pE_putI dX12_readAll_5 flX12_152 ftX12 fiX12_5 rfl rfl (by first | assumption | rfl) ?_
  refine pE_aload_n dX12_readAll_8 rfl rfl ?_
  refine pE_iconst (v := nI 0) dX12_readAll_9 rfl ?_
  refine pE_putI dX12_readAll_10 flX12_142 ftX12 fiX12_1 rfl rfl (by first | assumption | rfl) ?_
  refine pE_aload_n dX12_readAll_13 rfl rfl ?_
  refine pE_iconst (v := nI 0) dX12_readAll_14 rfl ?_
  refine pE_putI dX12_readAll_15 flX12_149 ftX12 fiX12_4 rfl rfl (by first | assumption | rfl) ?_
  refine pE_aload_n dX12_readAll_18 rfl rfl ?_
  refine pE_iconst (v := nI 0) dX12_readAll_19 rfl ?_
  refine pE_putI dX12_readAll_20 flX12_182 ftX12 fiX12_2 rfl rfl (by first | assumption | rfl) ?_
  refine pE_aload_n dX12_readAll_23 rfl rfl ?_
  refine pE_iconst (v := -1) dX12_readAll_24 rfl ?_
  refine pE_putI dX12_readAll_25 flX12_13 ftX12 fiX12_3 rfl rfl (by first | assumption | rfl) ?_
  refine pE_aload_n dX12_readAll_28 rfl rfl ?_
  refine pE_bipush (v := nI 9) dX12_readAll_29 rfl ?_
  refine pE_putI dX12_readAll_31 flX12_312 ftX12 fiX12_37 rfl rfl (by first | assumption | rfl) ?_
  refine pE_aload_n dX12_readAll_34 rfl rfl ?_
  refine pE_iconst (v := nI 0) dX12_readAll_35 rfl ?_
  refine pE_putI dX12_readAll_36 flX12_319 ftX12 fiX12_38 rfl rfl (by first | assumption | rfl) ?_
  refine pE_aload_n dX12_readAll_39 rfl rfl ?_
  refine pE_iconst (v := nI 0) dX12_readAll_40 rfl ?_
  refine pE_putI dX12_readAll_41 flX12_248 ftX12 fiX12_39 rfl rfl (by first | assumption | rfl) ?_
  refine pE_aload_n dX12_readAll_44 rfl rfl ?_
  refine pE_iconst (v := nI 0) dX12_readAll_45 rfl ?_
  refine pE_putI dX12_readAll_46 flX12_341 ftX12 fiX12_40 rfl rfl (by first | assumption | rfl) ?_
  refine pE_aload_n dX12_readAll_49 rfl rfl ?_
  refine pE_iconst (v := nI 0) dX12_readAll_50 rfl ?_
  refine pE_putB dX12_readAll_51 flX12_325 ftX12 fiX12_43 rfl rfl (by first | assumption | rfl) (by first | exact Or.inl nI_0 | exact Or.inr nI_1' | assumption) ?_
  refine pE_aload_n dX12_readAll_54 rfl rfl ?_
  refine pE_iconst (v := nI 0) dX12_readAll_55 rfl ?_
  refine pE_putB dX12_readAll_56 flX12_338 ftX12 fiX12_44 rfl rfl (by first | assumption | rfl) (by first | exact Or.inl nI_0 | exact Or.inr nI_1' | assumption) ?_
  refine pE_aload_n dX12_readAll_59 rfl rfl ?_
  refine pE_getR dX12_readAll_60 flX12_45 rfl (by first | assumption | rfl) (by first | assumption | rfl) ?_
  refine pE_iconst (v := nI 0) dX12_readAll_63 rfl ?_
  refine pE_iconst (v := nI 0) dX12_readAll_64 rfl ?_
  refine pE_zastoreN dX12_readAll_65 (by first | assumption | rfl) (by exact Or.inl nI_0) (by first | assumption | omega) (by omega) ?_
  refine pE_aload_n dX12_readAll_66 rfl rfl ?_
  refine pE_getR dX12_readAll_67 flX12_45 rfl (by first | assumption | rfl) (by first | assumption | rfl) ?_
  refine pE_iconst (v := nI 1) dX12_readAll_70 rfl ?_
  refine pE_iconst (v := nI 0) dX12_readAll_71 rfl ?_
  refine pE_zastoreN dX12_readAll_72 (by first | assumption | rfl) (by exact Or.inl nI_0) (by first | assumption | omega) (by omega) ?_
  refine pE_aload_n dX12_readAll_73 rfl rfl ?_
  refine pE_iconst (v := nI 0) dX12_readAll_74 rfl ?_
  refine pE_putI dX12_readAll_75 flX12_267 ftX12 fiX12_22 rfl rfl (by first | assumption | rfl) ?_
  have g6 : ∀ c k, c ≠ 67 → c ≠ 78 → (pu (pu (pu (pu (pu (pu (pu (pu (pu (pu (pu (pu (pu (pu I 67 5 (nI n)) 67 1 (nI 0)) 67 4 (nI 0)) 67 2 (nI 0)) 67 3 (-1)) 67 37 (nI 9)) 67 38 (nI 0)) 67 39 (nI 0)) 67 40 (nI 0)) 67 43 (nI 0)) 67 44 (nI 0)) 78 0 (nI 0)) 78 1 (nI 0)) 67 22 (nI 0)) c k = I c k := fun c k a b => by
    rw [pu_ne _ _ _ a, pu_ne _ _ _ b, pu_ne _ _ _ b, pu_ne _ _ _ a, pu_ne _ _ _ a, pu_ne _ _ _ a, pu_ne _ _ _ a, pu_ne _ _ _ a, pu_ne _ _ _ a, pu_ne _ _ _ a, pu_ne _ _ _ a, pu_ne _ _ _ a, pu_ne _ _ _ a, pu_ne _ _ _ a]
  have g7 : ∀ k, (pu (pu (pu (pu (pu (pu (pu (pu (pu (pu (pu (pu (pu (pu I 67 5 (nI n)) 67 1 (nI 0)) 67 4 (nI 0)) 67 2 (nI 0)) 67 3 (-1)) 67 37 (nI 9)) 67 38 (nI 0)) 67 39 (nI 0)) 67 40 (nI 0)) 67 43 (nI 0)) 67 44 (nI 0)) 78 0 (nI 0)) 78 1 (nI 0)) 67 22 (nI 0)) 67 k = if k = 22 then nI 0 else if k = 44 then nI 0 else if k = 43 then nI 0 else if k = 40 then nI 0 else if k = 39 then nI 0 else if k = 38 then nI 0 else if k = 37 then nI 9 else if k = 3 then -1 else if k = 2 then nI 0 else if k = 4 then nI 0 else if k = 1 then nI 0 else if k = 5 then nI n else I 67 k := fun k => by
    rw [pu_at _ _ _ 67 k, pu_ne _ _ _ (show (67 : Nat) ≠ 78 by decide), pu_ne _ _ _ (show (67 : Nat) ≠ 78 by decide), pu_at _ _ _ 67 k, pu_at _ _ _ 67 k, pu_at _ _ _ 67 k, pu_at _ _ _ 67 k, pu_at _ _ _ 67 k, pu_at _ _ _ 67 k, pu_at _ _ _ 67 k, pu_at _ _ _ 67 k, pu_at _ _ _ 67 k, pu_at _ _ _ 67 k, pu_at _ _ _ 67 k]
    simp only [true_and]
  have g8 : (pu (pu (pu (pu (pu (pu (pu (pu (pu (pu (pu (pu (pu (pu I 67 5 (nI n)) 67 1 (nI 0)) 67 4 (nI 0)) 67 2 (nI 0)) 67 3 (-1)) 67 37 (nI 9)) 67 38 (nI 0)) 67 39 (nI 0)) 67 40 (nI 0)) 67 43 (nI 0)) 67 44 (nI 0)) 78 0 (nI 0)) 78 1 (nI 0)) 67 22 (nI 0)) 78 0 = nI 0 ∧ (pu (pu (pu (pu (pu (pu (pu (pu (pu (pu (pu (pu (pu (pu I 67 5 (nI n)) 67 1 (nI 0)) 67 4 (nI 0)) 67 2 (nI 0)) 67 3 (-1)) 67 37 (nI 9)) 67 38 (nI 0)) 67 39 (nI 0)) 67 40 (nI 0)) 67 43 (nI 0)) 67 44 (nI 0)) 78 0 (nI 0)) 78 1 (nI 0)) 67 22 (nI 0)) 78 1 = nI 0 := by
    refine ⟨?_, ?_⟩
    · rw [pu_ne _ _ _ (show (78 : Nat) ≠ 67 by decide), pu_at, if_neg (by omega), pu_at, if_pos ⟨rfl, rfl⟩]
    · rw [pu_ne _ _ _ (show (78 : Nat) ≠ 67 by decide), pu_at, if_pos ⟨rfl, rfl⟩]
  have hT : tpM (pu (pu (pu (pu (pu (pu (pu (pu (pu (pu (pu (pu (pu (pu I 67 5 (nI n)) 67 1 (nI 0)) 67 4 (nI 0)) 67 2 (nI 0)) 67 3 (-1)) 67 37 (nI 9)) 67 38 (nI 0)) 67 39 (nI 0)) 67 40 (nI 0)) 67 43 (nI 0)) 67 44 (nI 0)) 78 0 (nI 0)) 78 1 (nI 0)) 67 22 (nI 0)) n B := ⟨by rw [g7]; rfl, hTp.2.1, fun i hi => by rw [g6 _ _ (by decide) (by decide)]; exact hTp.2.2 i hi⟩
  have hx0 : sMA I (pu (pu (pu (pu (pu (pu (pu (pu (pu (pu (pu (pu (pu (pu I 67 5 (nI n)) 67 1 (nI 0)) 67 4 (nI 0)) 67 2 (nI 0)) 67 3 (-1)) 67 37 (nI 9)) 67 38 (nI 0)) 67 39 (nI 0)) 67 40 (nI 0)) 67 43 (nI 0)) 67 44 (nI 0)) 78 0 (nI 0)) 78 1 (nI 0)) 67 22 (nI 0)) := fun c k a b d e2 f => by
    by_cases c67 : c = 67
    · subst c67
      rw [g7]
      repeat rw [if_neg (by omega)]
    · exact g6 c k c67 e2
  have hD0 : mDt (pu (pu (pu (pu (pu (pu (pu (pu (pu (pu (pu (pu (pu (pu I 67 5 (nI n)) 67 1 (nI 0)) 67 4 (nI 0)) 67 2 (nI 0)) 67 3 (-1)) 67 37 (nI 9)) 67 38 (nI 0)) 67 39 (nI 0)) 67 40 (nI 0)) 67 43 (nI 0)) 67 44 (nI 0)) 78 0 (nI 0)) 78 1 (nI 0)) 67 22 (nI 0)) J D0 := by
    refine ⟨⟨?_, ?_, ?_, ?_, ?_, fun j hj => absurd hj (by show ¬ j < 0; omega)⟩, g8.1, g8.2, ?_, fun k w h => (by cases h), fun w h => (by cases h), fun w h => (by cases h)⟩
    all_goals (rw [g7]; rfl)
  refine pE_aload_n dX12_readAll_78 rfl rfl ?_
  refine pE_callV (d' := 2) (as := []) dX12_readAll_79 lkX12_230 (cwX12_token _ _) ivX12_token ⟨_, rfl, rfl⟩ (by first | assumption | rfl) rfl rfl (Nat.le_of_ble_eq_true rfl) (by decide) pKK ?_
  refine M_X12_token (p := 0) hT (Nat.zero_le n) (fun I1 J1 x1 y1 x2 => ?_) (by rw [g7]; rfl)
  have hx1 := hx0.tr x1.r.l.a
  have h11 : I1 67 1 = nI 0 := by rw [x1 67 1 (by omega), g7]; rfl
  have hr0 : mR0 B n 0 I1 J1 := ⟨by rw [x1 67 2 (by omega), g7]; rfl, by rw [x1 67 3 (by omega), g7]; rfl, Nat.zero_le n, x2⟩
  by_cases k1 : tK B n 0 = 1
  · have e3 : sOf B n 0 = .inl (1, tQ B n 0) := by unfold sOf; rw [if_pos k1]
    exact L_X12_readAllB h1 h0 (hT.sMT x1) hx1 y1.n h11 hr0 k1 (by unfold txt; rw [e3, lns_e])
  · have e3 : sOf B n 0 = .inr 0 := by unfold sOf; rw [if_neg k1]
    exact L_X12_readAllT (I := I) (J := J) (m := n + 1) h1 h0 (hT.sMT x1) (by unfold txt; rw [e3]) ⟨by omega, Nat.zero_le n⟩ D0_r.1 (fun _ => D0_r.2) hx1 y1.n h11 hr0 k1 (hD0.r x1.r y1) (by rw [x1 67 43 (by omega), g7]; rfl)
