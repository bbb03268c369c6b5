/-! the model's reading: V1 a fault is noted; V2 none, and the token at p is looked at (it may be none) -/
def sOf (B : Nat → Nat) (n p : Nat) : pRS := if tK B n p = 1 then .inl (1, tQ B n p) else .inr p
theorem stp_s (B : Nat → Nat) (n p : Nat) : stp B n p = sOf B n (tE B n p) := rfl
def mFa (I : pHI) (e : Nat × Nat) : Prop := I 67 2 = nI e.1 ∧ (1 ≤ e.1 ∧ e.1 ≤ 4) ∧ I 67 3 = nI e.2 ∧ e.2 ≤ 1600
def mR0 (B : Nat → Nat) (n p : Nat) (I : pHI) (J : pHJ) : Prop := I 67 2 = nI 0 ∧ I 67 3 = -1 ∧ p ≤ n ∧ tkM B n p I J
def mRd (B : Nat → Nat) (n : Nat) (I : pHI) (J : pHJ) (s : pRS) : Prop := (∃ e, s = .inl e ∧ mFa I e) ∨ (∃ p, s = sOf B n p ∧ mR0 B n p I J)
theorem mR0.rd {B : Nat → Nat} {n p : Nat} {I : pHI} {J : pHJ} (h : mR0 B n p I J) : mRd B n I J (sOf B n p) := Or.inr ⟨p, rfl, h⟩
theorem mFa.rd {B : Nat → Nat} {n : Nat} {I : pHI} {J : pHJ} {e : Nat × Nat} (h : mFa I e) : mRd B n I J (.inl e) := Or.inl ⟨e, rfl, h⟩
def sMR (I I1 : pHI) : Prop := ∀ c k, ¬ (c = 67 ∧ (k = 2 ∨ k = 3 ∨ k = 4 ∨ (6 ≤ k ∧ k ≤ 8))) → I1 c k = I c k
theorem sMR.rf {I : pHI} : sMR I I := fun _ _ _ => rfl
theorem sMR.tr {I I1 I2 : pHI} (h1 : sMR I I1) (h2 : sMR I1 I2) : sMR I I2 := fun c k a => (h2 c k a).trans (h1 c k a)
theorem sMR.pu {I I1 : pHI} {k : Nat} {x : Int32} (h : sMR I I1) (hk : k = 2 ∨ k = 3 ∨ k = 4 ∨ (6 ≤ k ∧ k ≤ 8)) : sMR I (pu I1 67 k x) := fun c j a => by
  rw [pu_at, if_neg (fun q => a ⟨q.1, by omega⟩)]; exact h c j a
theorem sMT.r {I I1 : pHI} (h : sMT I I1) : sMR I I1 := fun c k a => h c k (fun q => a ⟨q.1, by omega⟩)
theorem tpM.r {I I1 : pHI} {n : Nat} {B : Nat → Nat} (h : tpM I n B) (hx : sMR I I1) : tpM I1 n B := ⟨by rw [hx 67 5 (by omega)]; exact h.1, h.2.1, fun i hi => by rw [hx 68 i (by omega)]; exact h.2.2 i hi⟩
theorem tpM.fr {I I1 : pHI} {n : Nat} {B : Nat → Nat} (h : tpM I n B) (h5 : I1 67 5 = I 67 5) (h6 : ∀ i, I1 68 i = I 68 i) : tpM I1 n B := ⟨h5.trans h.1, h.2.1, fun i hi => by rw [h6]; exact h.2.2 i hi⟩
theorem tkM.fr {B : Nat → Nat} {n p : Nat} {I I1 : pHI} {J : pHJ} (h : tkM B n p I J) (h4 : I1 67 4 = I 67 4) (h6 : I1 67 6 = I 67 6) (h7 : I1 67 7 = I 67 7) (h8 : I1 67 8 = I 67 8) : tkM B n p I1 J :=
  ⟨h6.trans h.1, h7.trans h.2.1, fun z => h4.trans (h.2.2.1 z), fun z => h8.trans (h.2.2.2.1 z), h.2.2.2.2⟩
theorem mR0.fr {B : Nat → Nat} {n p : Nat} {I I1 : pHI} {J : pHJ} (h : mR0 B n p I J) (h1 : ∀ k, k = 2 ∨ k = 3 ∨ k = 4 ∨ (6 ≤ k ∧ k ≤ 8) → I1 67 k = I 67 k) : mR0 B n p I1 J :=
  ⟨(h1 2 (by omega)).trans h.1, (h1 3 (by omega)).trans h.2.1, h.2.2.1, h.2.2.2.fr (h1 4 (by omega)) (h1 6 (by omega)) (h1 7 (by omega)) (h1 8 (by omega))⟩
theorem mFa.fr {I I1 : pHI} {e : Nat × Nat} (h : mFa I e) (h2 : I1 67 2 = I 67 2) (h3 : I1 67 3 = I 67 3) : mFa I1 e := ⟨h2.trans h.1, h.2.1, h3.trans h.2.2.1, h.2.2.2⟩
theorem mKd_b {B : Nat → Nat} {n p : Nat} (hp : p ≤ n) : mKd B n p ≤ 200 ∧ (mKd B n p = 3 ↔ tK B n p = 1) ∧ (mKd B n p = 1 ↔ tK B n p = 2) ∧ (mKd B n p = 2 ↔ tK B n p = 3) ∧ (mKd B n p = 0 ↔ tK B n p = 0) ∧ ∀ c, 4 ≤ c → (mKd B n p = c ↔ tkGb B n p c = true) := by
  have h4 := tK_le (B := B) hp
  unfold mKd tkGb
  by_cases c4 : tK B n p = 4
  · have b := sgB_lt (tK_4 c4)
    rw [if_pos c4, c4]
    refine ⟨by omega, by omega, by omega, by omega, by omega, fun c hc => ?_⟩
    simp
  · rw [if_neg c4]
    have hf : ∀ c, ¬ ((tK B n p == 4 && tC B n p == c) = true) := fun c q => c4 (by simp at q; exact q.1)
    by_cases c1 : tK B n p = 1
    · rw [if_pos c1]; exact ⟨by omega, by omega, by omega, by omega, by omega, fun c hc => ⟨fun q => by omega, fun q => absurd q (hf c)⟩⟩
    · rw [if_neg c1]
      by_cases c2 : tK B n p = 2
      · rw [if_pos c2]; exact ⟨by omega, by omega, by omega, by omega, by omega, fun c hc => ⟨fun q => by omega, fun q => absurd q (hf c)⟩⟩
      · rw [if_neg c2]
        by_cases c3 : tK B n p = 3
        · rw [if_pos c3]; exact ⟨by omega, by omega, by omega, by omega, by omega, fun c hc => ⟨fun q => by omega, fun q => absurd q (hf c)⟩⟩
        · rw [if_neg c3]; exact ⟨by omega, by omega, by omega, by omega, by omega, fun c hc => ⟨fun q => by omega, fun q => absurd q (hf c)⟩⟩
theorem tkM.word {B : Nat → Nat} {n p i : Nat} {I : pHI} {J : pHJ} (h : tkM B n p I J) (hi : i ∈ ownI) (hp : p ≤ n) (hk : mKd B n p = 1) : J 67 9 = mwJ (kwL i) ↔ tkWb B n p i = true := by
  have h2 := (mKd_b (B := B) hp).2.2.1.mp hk
  rw [h.2.2.2.2 h2, mwJ_inj (tL_ok hp h2) (kw_ok i hi), tkWb_i]
  exact ⟨fun q => ⟨h2, q⟩, fun q => q.2⟩
theorem mwk : mwJ (kwL 1) = 32497644331170163 ∧ mwJ (kwL 2) = 1818846836 ∧ mwJ (kwL 3) = 127978992397940 ∧ mwJ (kwL 5) = 28526 ∧ mwJ (kwL 6) = 126943973305959 ∧ mwJ (kwL 7) = 448377484921 ∧ mwJ (kwL 8) = 1870095731 ∧ mwJ (kwL 9) = 439720963187 ∧ mwJ (kwL 10) = 109330362692723 ∧ mwJ (kwL 11) = 7237492 ∧ mwJ (kwL 12) = 474214787188 ∧ mwJ (kwL 13) = 2003133803 ∧ mwJ (kwL 14) = 27985222756885860 ∧ mwJ (kwL 15) = 6385252 ∧ mwJ (kwL 16) = 28530 ∧ mwJ (kwL 17) = 470021465459 ∧ mwJ (kwL 18) = 1685217655 := by decide +kernel
set_option maxHeartbeats 400000 in
set_option maxRecDepth 100000 in
theorem M_X12_wrongE {l : Launch} {X : pX} {t g : Nat} {I : pHI} {J : pHJ} {Q : pQ} {e : Nat × Nat} {a : Int32} (hf : mFa I e) (hq : Q none I J (pR t g)) : pM l X yX12_wrong mX12_wrong 0 [.ref 67, .int a] pK pK I J (pR t g) Q := by
  have h1 := hf.2.1
  refine pM_of rfl (fun h => by cases h) rfl pKM (Nat.le_of_ble_eq_true rfl) ?_
  refine pE_aload_n dX12_wrong_0 rfl rfl ?_
  refine pE_getI dX12_wrong_1 flX12_182 rfl (Or.inl rfl) (by first | assumption | rfl) ?_
  rw [hf.1]
  refine pE_if_le (tgt := 8) dX12_wrong_4 (by decide) (fun h4 => ?_) (fun h4 => ?_)
  · have g4 := nq_le0 (by omega) h4
    omega
  · have g4 := nq_nle0 (by omega) h4
    refine pE_vret dX12_wrong_7 rfl rfl ?_
    exact hq
set_option maxHeartbeats 400000 in
set_option maxRecDepth 100000 in
theorem M_X12_wrong {l : Launch} {X : pX} {t g : Nat} {I : pHI} {J : pHJ} {Q : pQ} {n p a : Nat} {B : Nat → Nat} (hT : tpM I n B) (hr : mR0 B n p I J) (ha : 1 ≤ a ∧ a ≤ 4) (hq : ∀ I1, sMR I I1 → mFa I1 (if tK B n p = 1 then 1 else a, tQ B n p) → Q none I1 J (pR t g)) : pM l X yX12_wrong mX12_wrong 0 [.ref 67, .int (nI a)] pK pK I J (pR t g) Q := by
  obtain ⟨h1, h2, hp, hk⟩ := hr
  have hm := mKd_b (B := B) hp
  have hb := (tQ_b (B := B) hp).2.1
  have hn := hT.2.1
  refine pM_of rfl (fun h => by cases h) rfl pKM (Nat.le_of_ble_eq_true rfl) ?_
  refine pE_aload_n dX12_wrong_0 rfl rfl ?_
  refine pE_getI dX12_wrong_1 flX12_182 rfl (Or.inl rfl) (by first | assumption | rfl) ?_
  rw [h1]
  refine pE_if_le (tgt := 8) dX12_wrong_4 (by decide) (fun h4 => ?_) (fun h4 => ?_)
  · have g4 := nq_le0 (by omega) h4
    refine pE_aload_n dX12_wrong_8 rfl rfl ?_
    refine pE_aload_n dX12_wrong_9 rfl rfl ?_
    refine pE_getI dX12_wrong_10 flX12_169 rfl (Or.inl rfl) (by first | assumption | rfl) ?_
    rw [hk.1]
    refine pE_iconst (v := nI 3) dX12_wrong_13 rfl ?_
    refine pE_icmp_ne (tgt := 21) dX12_wrong_14 (by decide) (fun h14 => ?_) (fun h14 => ?_)
    · have g14 := nq_ne (by omega) (by omega) h14
      refine pE_iload_n dX12_wrong_21 rfl rfl ?_
      refine pE_putI dX12_wrong_22 flX12_182 ftX12 fiX12_2 rfl rfl (by first | assumption | rfl) ?_
      refine pE_aload_n dX12_wrong_25 rfl rfl ?_
      refine pE_aload_n dX12_wrong_26 rfl rfl ?_
      refine pE_getI dX12_wrong_27 flX12_159 rfl (Or.inl rfl) (by first | assumption | rfl) ?_
      rw [pu_at, if_neg (by omega), hk.2.1]
      refine pE_putI dX12_wrong_30 flX12_13 ftX12 fiX12_3 rfl rfl (by first | assumption | rfl) ?_
      refine pE_vret dX12_wrong_33 rfl rfl ?_
      refine hq _ ((sMR.rf.pu (by omega)).pu (by omega)) ⟨?_, ?_, ?_, ?_⟩
      · rw [pu_at, if_neg (by omega), pu_at, if_pos ⟨rfl, rfl⟩]
        first
        | (rw [if_pos (hm.2.1.mp g14)])
        | (rw [if_neg (fun z => g14 (hm.2.1.mpr z))])
      · show 1 ≤ (if tK B n p = 1 then 1 else a) ∧ (if tK B n p = 1 then 1 else a) ≤ 4
        split <;> omega
      · rw [pu_at, if_pos ⟨rfl, rfl⟩]
      · show tQ B n p ≤ 1600
        omega
    · have g14 := nq_eq (by omega) (by omega) h14
      refine pE_iconst (v := nI 1) dX12_wrong_17 rfl ?_
      refine pE_goto (tgt := 22) dX12_wrong_18 (by decide) ?_
      refine pE_putI dX12_wrong_22 flX12_182 ftX12 fiX12_2 rfl rfl (by first | assumption | rfl) ?_
      refine pE_aload_n dX12_wrong_25 rfl rfl ?_
      refine pE_aload_n dX12_wrong_26 rfl rfl ?_
      refine pE_getI dX12_wrong_27 flX12_159 rfl (Or.inl rfl) (by first | assumption | rfl) ?_
      rw [pu_at, if_neg (by omega), hk.2.1]
      refine pE_putI dX12_wrong_30 flX12_13 ftX12 fiX12_3 rfl rfl (by first | assumption | rfl) ?_
      refine pE_vret dX12_wrong_33 rfl rfl ?_
      refine hq _ ((sMR.rf.pu (by omega)).pu (by omega)) ⟨?_, ?_, ?_, ?_⟩
      · rw [pu_at, if_neg (by omega), pu_at, if_pos ⟨rfl, rfl⟩]
        first
        | (rw [if_pos (hm.2.1.mp g14)])
        | (rw [if_neg (fun z => g14 (hm.2.1.mpr z))])
      · show 1 ≤ (if tK B n p = 1 then 1 else a) ∧ (if tK B n p = 1 then 1 else a) ≤ 4
        split <;> omega
      · rw [pu_at, if_pos ⟨rfl, rfl⟩]
      · show tQ B n p ≤ 1600
        omega
  · have g4 := nq_nle0 (by omega) h4
    omega
set_option maxHeartbeats 400000 in
set_option maxRecDepth 100000 in
theorem M_X12_tokenN {l : Launch} {X : pX} {t g : Nat} {I : pHI} {J : pHJ} {Q : pQ} {n p : Nat} {B : Nat → Nat} (hT : tpM I n B) (hr : mR0 B n p I J) (hk : tK B n p ≠ 1) (hq : ∀ I1 J1, sMR I I1 → jM J J1 → mR0 B n (tE B n p) I1 J1 → Q none I1 J1 (pR t g)) : pM l X yX12_token mX12_token 2 [.ref 67] pK pK I J (pR t g) Q := by
  obtain ⟨h1, h2, hp, ht⟩ := hr
  exact M_X12_token hT (tE_b hp).2 (fun I1 J1 x y z => hq I1 J1 x.r y ⟨(x 67 2 (by omega)).trans h1, (x 67 3 (by omega)).trans h2, (tE_b hp).2, z⟩) (ht.2.2.1 hk)
set_option maxHeartbeats 400000 in
set_option maxRecDepth 100000 in
theorem M_X12_isWord {l : Launch} {X : pX} {t g : Nat} {I : pHI} {J : pHJ} {Q : pQ} {n p i : Nat} {B : Nat → Nat} (hr : mR0 B n p I J) (hi : i ∈ ownI) (h1 : tkWb B n p i = true → Q (some (.int (nI 1))) I J (pR t g)) (h0 : ¬ tkWb B n p i = true → Q (some (.int (nI 0))) I J (pR t g)) : pM l X yX12_isWord mX12_isWord 0 [.ref 67, .long (mwJ (kwL i))] pK pK I J (pR t g) Q := by
  obtain ⟨e1, e2, hp, hk⟩ := hr
  have hm := mKd_b (B := B) hp
  refine pM_of rfl (fun h => by cases h) rfl pKM (Nat.le_of_ble_eq_true rfl) ?_
  refine pE_aload_n dX12_isWord_0 rfl rfl ?_
  refine pE_getI dX12_isWord_1 flX12_169 rfl (Or.inl rfl) (by first | assumption | rfl) ?_
  rw [hk.1]
  refine pE_iconst (v := nI 1) dX12_isWord_4 rfl ?_
  refine pE_icmp_ne (tgt := 21) dX12_isWord_5 (by decide) (fun h5 => ?_) (fun h5 => ?_)
  · have g5 := nq_ne (by omega) (by omega) h5
    refine pE_iconst (v := nI 0) dX12_isWord_21 rfl ?_
    refine pE_zret dX12_isWord_22 rfl (by first | exact Or.inl nI_0 | exact Or.inr nI_1') rfl ?_
    first
    | exact h1 ((hk.word hi hp (by omega)).mp ((lg_cmp_eq _ _).mp h14))
    | exact h0 (fun z => h14 ((lg_cmp_eq _ _).mpr ((hk.word hi hp (by omega)).mpr z)))
    | exact h0 (fun z => g5 (hm.2.2.1.mpr (tkWb_k z)))
  · have g5 := nq_eq (by omega) (by omega) h5
    refine pE_aload_n dX12_isWord_8 rfl rfl ?_
    refine pE_getJ dX12_isWord_9 flX12_162 rfl (by first | assumption | rfl) ?_
    refine pE_lload_n dX12_isWord_12 rfl rfl ?_
    refine pE_lcmp dX12_isWord_13 ?_
    refine pE_if_ne (tgt := 21) dX12_isWord_14 (by decide) (fun h14 => ?_) (fun h14 => ?_)
    · refine pE_iconst (v := nI 0) dX12_isWord_21 rfl ?_
      refine pE_zret dX12_isWord_22 rfl (by first | exact Or.inl nI_0 | exact Or.inr nI_1') rfl ?_
      first
      | exact h1 ((hk.word hi hp (by omega)).mp ((lg_cmp_eq _ _).mp h14))
      | exact h0 (fun z => h14 ((lg_cmp_eq _ _).mpr ((hk.word hi hp (by omega)).mpr z)))
      | exact h0 (fun z => g5 (hm.2.2.1.mpr (tkWb_k z)))
    · refine pE_iconst (v := nI 1) dX12_isWord_17 rfl ?_
      refine pE_goto (tgt := 22) dX12_isWord_18 (by decide) ?_
      refine pE_zret dX12_isWord_22 rfl (by first | exact Or.inl nI_0 | exact Or.inr nI_1') rfl ?_
      first
      | exact h1 ((hk.word hi hp (by omega)).mp ((lg_cmp_eq _ _).mp h14))
      | exact h0 (fun z => h14 ((lg_cmp_eq _ _).mpr ((hk.word hi hp (by omega)).mpr z)))
      | exact h0 (fun z => g5 (hm.2.2.1.mpr (tkWb_k z)))
set_option maxHeartbeats 400000 in
set_option maxRecDepth 100000 in
theorem M_X12_isOwn {l : Launch} {X : pX} {t g : Nat} {I : pHI} {J : pHJ} {Q : pQ}  (h1 : ∀ i, i ∈ ownI → J 67 9 = mwJ (kwL i) → Q (some (.int (nI 1))) I J (pR t g)) (h0 : (∀ i, i ∈ ownI → J 67 9 ≠ mwJ (kwL i)) → Q (some (.int (nI 0))) I J (pR t g)) : pM l X yX12_isOwn mX12_isOwn 0 [.ref 67] pK pK I J (pR t g) Q := by
  refine pM_of rfl (fun h => by cases h) rfl pKM (Nat.le_of_ble_eq_true rfl) ?_
  refine pE_aload_n dX12_isOwn_0 rfl rfl ?_
  refine pE_getJ dX12_isOwn_1 flX12_162 rfl (by first | assumption | rfl) ?_
  refine pE_ldc2 dX12_isOwn_4 kcX12_185 ?_
  refine pE_lcmp dX12_isOwn_7 ?_
  refine pE_if_eq (tgt := 187) dX12_isOwn_8 (by decide) (fun h8 => ?_) (fun h8 => ?_)
  · refine pE_iconst (v := nI 1) dX12_isOwn_187 rfl ?_
    refine pE_goto (tgt := 192) dX12_isOwn_188 (by decide) ?_
    refine pE_zret dX12_isOwn_192 rfl (by first | exact Or.inl nI_0 | exact Or.inr nI_1') rfl ?_
    exact h1 1 (by decide) (((lg_cmp_eq _ _).mp h8).trans mwk.1.symm)
  · refine pE_aload_n dX12_isOwn_11 rfl rfl ?_
    refine pE_getJ dX12_isOwn_12 flX12_162 rfl (by first | assumption | rfl) ?_
    refine pE_ldc2 dX12_isOwn_15 kcX12_187 ?_
    refine pE_lcmp dX12_isOwn_18 ?_
    refine pE_if_eq (tgt := 187) dX12_isOwn_19 (by decide) (fun h19 => ?_) (fun h19 => ?_)
    · refine pE_iconst (v := nI 1) dX12_isOwn_187 rfl ?_
      refine pE_goto (tgt := 192) dX12_isOwn_188 (by decide) ?_
      refine pE_zret dX12_isOwn_192 rfl (by first | exact Or.inl nI_0 | exact Or.inr nI_1') rfl ?_
      exact h1 2 (by decide) (((lg_cmp_eq _ _).mp h19).trans mwk.2.1.symm)
    · refine pE_aload_n dX12_isOwn_22 rfl rfl ?_
      refine pE_getJ dX12_isOwn_23 flX12_162 rfl (by first | assumption | rfl) ?_
      refine pE_ldc2 dX12_isOwn_26 kcX12_189 ?_
      refine pE_lcmp dX12_isOwn_29 ?_
      refine pE_if_eq (tgt := 187) dX12_isOwn_30 (by decide) (fun h30 => ?_) (fun h30 => ?_)
      · refine pE_iconst (v := nI 1) dX12_isOwn_187 rfl ?_
        refine pE_goto (tgt := 192) dX12_isOwn_188 (by decide) ?_
        refine pE_zret dX12_isOwn_192 rfl (by first | exact Or.inl nI_0 | exact Or.inr nI_1') rfl ?_
        exact h1 3 (by decide) (((lg_cmp_eq _ _).mp h30).trans mwk.2.2.1.symm)
      · refine pE_aload_n dX12_isOwn_33 rfl rfl ?_
        refine pE_getJ dX12_isOwn_34 flX12_162 rfl (by first | assumption | rfl) ?_
        refine pE_ldc2 dX12_isOwn_37 kcX12_191 ?_
        refine pE_lcmp dX12_isOwn_40 ?_
        refine pE_if_eq (tgt := 187) dX12_isOwn_41 (by decide) (fun h41 => ?_) (fun h41 => ?_)
        · refine pE_iconst (v := nI 1) dX12_isOwn_187 rfl ?_
          refine pE_goto (tgt := 192) dX12_isOwn_188 (by decide) ?_
          refine pE_zret dX12_isOwn_192 rfl (by first | exact Or.inl nI_0 | exact Or.inr nI_1') rfl ?_
          exact h1 5 (by decide) (((lg_cmp_eq _ _).mp h41).trans mwk.2.2.2.1.symm)
        · refine pE_aload_n dX12_isOwn_44 rfl rfl ?_
          refine pE_getJ dX12_isOwn_45 flX12_162 rfl (by first | assumption | rfl) ?_
          refine pE_ldc2 dX12_isOwn_48 kcX12_193 ?_
          refine pE_lcmp dX12_isOwn_51 ?_
          refine pE_if_eq (tgt := 187) dX12_isOwn_52 (by decide) (fun h52 => ?_) (fun h52 => ?_)
          · refine pE_iconst (v := nI 1) dX12_isOwn_187 rfl ?_
            refine pE_goto (tgt := 192) dX12_isOwn_188 (by decide) ?_
            refine pE_zret dX12_isOwn_192 rfl (by first | exact Or.inl nI_0 | exact Or.inr nI_1') rfl ?_
            exact h1 6 (by decide) (((lg_cmp_eq _ _).mp h52).trans mwk.2.2.2.2.1.symm)
          · refine pE_aload_n dX12_isOwn_55 rfl rfl ?_
            refine pE_getJ dX12_isOwn_56 flX12_162 rfl (by first | assumption | rfl) ?_
            refine pE_ldc2 dX12_isOwn_59 kcX12_195 ?_
            refine pE_lcmp dX12_isOwn_62 ?_
            refine pE_if_eq (tgt := 187) dX12_isOwn_63 (by decide) (fun h63 => ?_) (fun h63 => ?_)
            · refine pE_iconst (v := nI 1) dX12_isOwn_187 rfl ?_
              refine pE_goto (tgt := 192) dX12_isOwn_188 (by decide) ?_
              refine pE_zret dX12_isOwn_192 rfl (by first | exact Or.inl nI_0 | exact Or.inr nI_1') rfl ?_
              exact h1 7 (by decide) (((lg_cmp_eq _ _).mp h63).trans mwk.2.2.2.2.2.1.symm)
            · refine pE_aload_n dX12_isOwn_66 rfl rfl ?_
              refine pE_getJ dX12_isOwn_67 flX12_162 rfl (by first | assumption | rfl) ?_
              refine pE_ldc2 dX12_isOwn_70 kcX12_197 ?_
              refine pE_lcmp dX12_isOwn_73 ?_
              refine pE_if_eq (tgt := 187) dX12_isOwn_74 (by decide) (fun h74 => ?_) (fun h74 => ?_)
              · refine pE_iconst (v := nI 1) dX12_isOwn_187 rfl ?_
                refine pE_goto (tgt := 192) dX12_isOwn_188 (by decide) ?_
                refine pE_zret dX12_isOwn_192 rfl (by first | exact Or.inl nI_0 | exact Or.inr nI_1') rfl ?_
                exact h1 8 (by decide) (((lg_cmp_eq _ _).mp h74).trans mwk.2.2.2.2.2.2.1.symm)
              · refine pE_aload_n dX12_isOwn_77 rfl rfl ?_
                refine pE_getJ dX12_isOwn_78 flX12_162 rfl (by first | assumption | rfl) ?_
                refine pE_ldc2 dX12_isOwn_81 kcX12_199 ?_
                refine pE_lcmp dX12_isOwn_84 ?_
                refine pE_if_eq (tgt := 187) dX12_isOwn_85 (by decide) (fun h85 => ?_) (fun h85 => ?_)
                · refine pE_iconst (v := nI 1) dX12_isOwn_187 rfl ?_
                  refine pE_goto (tgt := 192) dX12_isOwn_188 (by decide) ?_
                  refine pE_zret dX12_isOwn_192 rfl (by first | exact Or.inl nI_0 | exact Or.inr nI_1') rfl ?_
                  exact h1 9 (by decide) (((lg_cmp_eq _ _).mp h85).trans mwk.2.2.2.2.2.2.2.1.symm)
                · refine pE_aload_n dX12_isOwn_88 rfl rfl ?_
                  refine pE_getJ dX12_isOwn_89 flX12_162 rfl (by first | assumption | rfl) ?_
                  refine pE_ldc2 dX12_isOwn_92 kcX12_201 ?_
                  refine pE_lcmp dX12_isOwn_95 ?_
                  refine pE_if_eq (tgt := 187) dX12_isOwn_96 (by decide) (fun h96 => ?_) (fun h96 => ?_)
                  · refine pE_iconst (v := nI 1) dX12_isOwn_187 rfl ?_
                    refine pE_goto (tgt := 192) dX12_isOwn_188 (by decide) ?_
                    refine pE_zret dX12_isOwn_192 rfl (by first | exact Or.inl nI_0 | exact Or.inr nI_1') rfl ?_
                    exact h1 10 (by decide) (((lg_cmp_eq _ _).mp h96).trans mwk.2.2.2.2.2.2.2.2.1.symm)
                  · refine pE_aload_n dX12_isOwn_99 rfl rfl ?_
                    refine pE_getJ dX12_isOwn_100 flX12_162 rfl (by first | assumption | rfl) ?_
                    refine pE_ldc2 dX12_isOwn_103 kcX12_203 ?_
                    refine pE_lcmp dX12_isOwn_106 ?_
                    refine pE_if_eq (tgt := 187) dX12_isOwn_107 (by decide) (fun h107 => ?_) (fun h107 => ?_)
                    · refine pE_iconst (v := nI 1) dX12_isOwn_187 rfl ?_
                      refine pE_goto (tgt := 192) dX12_isOwn_188 (by decide) ?_
                      refine pE_zret dX12_isOwn_192 rfl (by first | exact Or.inl nI_0 | exact Or.inr nI_1') rfl ?_
                      exact h1 17 (by decide) (((lg_cmp_eq _ _).mp h107).trans mwk.2.2.2.2.2.2.2.2.2.2.2.2.2.2.2.1.symm)
                    · refine pE_aload_n dX12_isOwn_110 rfl rfl ?_
                      refine pE_getJ dX12_isOwn_111 flX12_162 rfl (by first | assumption | rfl) ?_
                      refine pE_ldc2 dX12_isOwn_114 kcX12_205 ?_
                      refine pE_lcmp dX12_isOwn_117 ?_
                      refine pE_if_eq (tgt := 187) dX12_isOwn_118 (by decide) (fun h118 => ?_) (fun h118 => ?_)
                      · refine pE_iconst (v := nI 1) dX12_isOwn_187 rfl ?_
                        refine pE_goto (tgt := 192) dX12_isOwn_188 (by decide) ?_
                        refine pE_zret dX12_isOwn_192 rfl (by first | exact Or.inl nI_0 | exact Or.inr nI_1') rfl ?_
                        exact h1 18 (by decide) (((lg_cmp_eq _ _).mp h118).trans mwk.2.2.2.2.2.2.2.2.2.2.2.2.2.2.2.2.symm)
                      · refine pE_aload_n dX12_isOwn_121 rfl rfl ?_
                        refine pE_getJ dX12_isOwn_122 flX12_162 rfl (by first | assumption | rfl) ?_
                        refine pE_ldc2 dX12_isOwn_125 kcX12_207 ?_
                        refine pE_lcmp dX12_isOwn_128 ?_
                        refine pE_if_eq (tgt := 187) dX12_isOwn_129 (by decide) (fun h129 => ?_) (fun h129 => ?_)
                        · refine pE_iconst (v := nI 1) dX12_isOwn_187 rfl ?_
                          refine pE_goto (tgt := 192) dX12_isOwn_188 (by decide) ?_
                          refine pE_zret dX12_isOwn_192 rfl (by first | exact Or.inl nI_0 | exact Or.inr nI_1') rfl ?_
                          exact h1 12 (by decide) (((lg_cmp_eq _ _).mp h129).trans mwk.2.2.2.2.2.2.2.2.2.2.1.symm)
                        · refine pE_aload_n dX12_isOwn_132 rfl rfl ?_
                          refine pE_getJ dX12_isOwn_133 flX12_162 rfl (by first | assumption | rfl) ?_
                          refine pE_ldc2 dX12_isOwn_136 kcX12_209 ?_
                          refine pE_lcmp dX12_isOwn_139 ?_
                          refine pE_if_eq (tgt := 187) dX12_isOwn_140 (by decide) (fun h140 => ?_) (fun h140 => ?_)
                          · refine pE_iconst (v := nI 1) dX12_isOwn_187 rfl ?_
                            refine pE_goto (tgt := 192) dX12_isOwn_188 (by decide) ?_
                            refine pE_zret dX12_isOwn_192 rfl (by first | exact Or.inl nI_0 | exact Or.inr nI_1') rfl ?_
                            exact h1 13 (by decide) (((lg_cmp_eq _ _).mp h140).trans mwk.2.2.2.2.2.2.2.2.2.2.2.1.symm)
                          · refine pE_aload_n dX12_isOwn_143 rfl rfl ?_
                            refine pE_getJ dX12_isOwn_144 flX12_162 rfl (by first | assumption | rfl) ?_
                            refine pE_ldc2 dX12_isOwn_147 kcX12_211 ?_
                            refine pE_lcmp dX12_isOwn_150 ?_
                            refine pE_if_eq (tgt := 187) dX12_isOwn_151 (by decide) (fun h151 => ?_) (fun h151 => ?_)
                            · refine pE_iconst (v := nI 1) dX12_isOwn_187 rfl ?_
                              refine pE_goto (tgt := 192) dX12_isOwn_188 (by decide) ?_
                              refine pE_zret dX12_isOwn_192 rfl (by first | exact Or.inl nI_0 | exact Or.inr nI_1') rfl ?_
                              exact h1 14 (by decide) (((lg_cmp_eq _ _).mp h151).trans mwk.2.2.2.2.2.2.2.2.2.2.2.2.1.symm)
                            · refine pE_aload_n dX12_isOwn_154 rfl rfl ?_
                              refine pE_getJ dX12_isOwn_155 flX12_162 rfl (by first | assumption | rfl) ?_
                              refine pE_ldc2 dX12_isOwn_158 kcX12_213 ?_
                              refine pE_lcmp dX12_isOwn_161 ?_
                              refine pE_if_eq (tgt := 187) dX12_isOwn_162 (by decide) (fun h162 => ?_) (fun h162 => ?_)
                              · refine pE_iconst (v := nI 1) dX12_isOwn_187 rfl ?_
                                refine pE_goto (tgt := 192) dX12_isOwn_188 (by decide) ?_
                                refine pE_zret dX12_isOwn_192 rfl (by first | exact Or.inl nI_0 | exact Or.inr nI_1') rfl ?_
                                exact h1 15 (by decide) (((lg_cmp_eq _ _).mp h162).trans mwk.2.2.2.2.2.2.2.2.2.2.2.2.2.1.symm)
                              · refine pE_aload_n dX12_isOwn_165 rfl rfl ?_
                                refine pE_getJ dX12_isOwn_166 flX12_162 rfl (by first | assumption | rfl) ?_
                                refine pE_ldc2 dX12_isOwn_169 kcX12_215 ?_
                                refine pE_lcmp dX12_isOwn_172 ?_
                                refine pE_if_eq (tgt := 187) dX12_isOwn_173 (by decide) (fun h173 => ?_) (fun h173 => ?_)
                                · refine pE_iconst (v := nI 1) dX12_isOwn_187 rfl ?_
                                  refine pE_goto (tgt := 192) dX12_isOwn_188 (by decide) ?_
                                  refine pE_zret dX12_isOwn_192 rfl (by first | exact Or.inl nI_0 | exact Or.inr nI_1') rfl ?_
                                  exact h1 16 (by decide) (((lg_cmp_eq _ _).mp h173).trans mwk.2.2.2.2.2.2.2.2.2.2.2.2.2.2.1.symm)
                                · refine pE_aload_n dX12_isOwn_176 rfl rfl ?_
                                  refine pE_getJ dX12_isOwn_177 flX12_162 rfl (by first | assumption | rfl) ?_
                                  refine pE_ldc2 dX12_isOwn_180 kcX12_217 ?_
                                  refine pE_lcmp dX12_isOwn_183 ?_
                                  refine pE_if_ne (tgt := 191) dX12_isOwn_184 (by decide) (fun h184 => ?_) (fun h184 => ?_)
                                  · refine pE_iconst (v := nI 0) dX12_isOwn_191 rfl ?_
                                    refine pE_zret dX12_isOwn_192 rfl (by first | exact Or.inl nI_0 | exact Or.inr nI_1') rfl ?_
                                    first
                                    | exact h1 11 (by decide) (((lg_cmp_eq _ _).mp h184).trans mwk.2.2.2.2.2.2.2.2.2.1.symm)
                                    | (refine h0 (fun i hi => ?_)
                                       unfold ownI at hi
                                       simp only [List.mem_cons, List.not_mem_nil, or_false] at hi
                                       rcases hi with rfl | rfl | rfl | rfl | rfl | rfl | rfl | rfl | rfl | rfl | rfl | rfl | rfl | rfl | rfl | rfl | rfl
                                       · rw [mwk.1]; exact fun z => h8 ((lg_cmp_eq _ _).mpr z)
                                       · rw [mwk.2.1]; exact fun z => h19 ((lg_cmp_eq _ _).mpr z)
                                       · rw [mwk.2.2.1]; exact fun z => h30 ((lg_cmp_eq _ _).mpr z)
                                       · rw [mwk.2.2.2.1]; exact fun z => h41 ((lg_cmp_eq _ _).mpr z)
                                       · rw [mwk.2.2.2.2.1]; exact fun z => h52 ((lg_cmp_eq _ _).mpr z)
                                       · rw [mwk.2.2.2.2.2.1]; exact fun z => h63 ((lg_cmp_eq _ _).mpr z)
                                       · rw [mwk.2.2.2.2.2.2.1]; exact fun z => h74 ((lg_cmp_eq _ _).mpr z)
                                       · rw [mwk.2.2.2.2.2.2.2.1]; exact fun z => h85 ((lg_cmp_eq _ _).mpr z)
                                       · rw [mwk.2.2.2.2.2.2.2.2.1]; exact fun z => h96 ((lg_cmp_eq _ _).mpr z)
                                       · rw [mwk.2.2.2.2.2.2.2.2.2.2.2.2.2.2.2.1]; exact fun z => h107 ((lg_cmp_eq _ _).mpr z)
                                       · rw [mwk.2.2.2.2.2.2.2.2.2.2.2.2.2.2.2.2]; exact fun z => h118 ((lg_cmp_eq _ _).mpr z)
                                       · rw [mwk.2.2.2.2.2.2.2.2.2.2.2.2.2.2.1]; exact fun z => h173 ((lg_cmp_eq _ _).mpr z)
                                       · rw [mwk.2.2.2.2.2.2.2.2.2.2.2.2.2.1]; exact fun z => h162 ((lg_cmp_eq _ _).mpr z)
                                       · rw [mwk.2.2.2.2.2.2.2.2.2.1]; exact fun z => h184 ((lg_cmp_eq _ _).mpr z)
                                       · rw [mwk.2.2.2.2.2.2.2.2.2.2.1]; exact fun z => h129 ((lg_cmp_eq _ _).mpr z)
                                       · rw [mwk.2.2.2.2.2.2.2.2.2.2.2.1]; exact fun z => h140 ((lg_cmp_eq _ _).mpr z)
                                       · rw [mwk.2.2.2.2.2.2.2.2.2.2.2.2.1]; exact fun z => h151 ((lg_cmp_eq _ _).mpr z))
                                  · refine pE_iconst (v := nI 1) dX12_isOwn_187 rfl ?_
                                    refine pE_goto (tgt := 192) dX12_isOwn_188 (by decide) ?_
                                    refine pE_zret dX12_isOwn_192 rfl (by first | exact Or.inl nI_0 | exact Or.inr nI_1') rfl ?_
                                    first
                                    | exact h1 11 (by decide) (((lg_cmp_eq _ _).mp h184).trans mwk.2.2.2.2.2.2.2.2.2.1.symm)
                                    | (refine h0 (fun i hi => ?_)
                                       unfold ownI at hi
                                       simp only [List.mem_cons, List.not_mem_nil, or_false] at hi
                                       rcases hi with rfl | rfl | rfl | rfl | rfl | rfl | rfl | rfl | rfl | rfl | rfl | rfl | rfl | rfl | rfl | rfl | rfl
                                       · rw [mwk.1]; exact fun z => h8 ((lg_cmp_eq _ _).mpr z)
                                       · rw [mwk.2.1]; exact fun z => h19 ((lg_cmp_eq _ _).mpr z)
                                       · rw [mwk.2.2.1]; exact fun z => h30 ((lg_cmp_eq _ _).mpr z)
                                       · rw [mwk.2.2.2.1]; exact fun z => h41 ((lg_cmp_eq _ _).mpr z)
                                       · rw [mwk.2.2.2.2.1]; exact fun z => h52 ((lg_cmp_eq _ _).mpr z)
                                       · rw [mwk.2.2.2.2.2.1]; exact fun z => h63 ((lg_cmp_eq _ _).mpr z)
                                       · rw [mwk.2.2.2.2.2.2.1]; exact fun z => h74 ((lg_cmp_eq _ _).mpr z)
                                       · rw [mwk.2.2.2.2.2.2.2.1]; exact fun z => h85 ((lg_cmp_eq _ _).mpr z)
                                       · rw [mwk.2.2.2.2.2.2.2.2.1]; exact fun z => h96 ((lg_cmp_eq _ _).mpr z)
                                       · rw [mwk.2.2.2.2.2.2.2.2.2.2.2.2.2.2.2.1]; exact fun z => h107 ((lg_cmp_eq _ _).mpr z)
                                       · rw [mwk.2.2.2.2.2.2.2.2.2.2.2.2.2.2.2.2]; exact fun z => h118 ((lg_cmp_eq _ _).mpr z)
                                       · rw [mwk.2.2.2.2.2.2.2.2.2.2.2.2.2.2.1]; exact fun z => h173 ((lg_cmp_eq _ _).mpr z)
                                       · rw [mwk.2.2.2.2.2.2.2.2.2.2.2.2.2.1]; exact fun z => h162 ((lg_cmp_eq _ _).mpr z)
                                       · rw [mwk.2.2.2.2.2.2.2.2.2.1]; exact fun z => h184 ((lg_cmp_eq _ _).mpr z)
                                       · rw [mwk.2.2.2.2.2.2.2.2.2.2.1]; exact fun z => h129 ((lg_cmp_eq _ _).mpr z)
                                       · rw [mwk.2.2.2.2.2.2.2.2.2.2.2.1]; exact fun z => h140 ((lg_cmp_eq _ _).mpr z)
                                       · rw [mwk.2.2.2.2.2.2.2.2.2.2.2.2.1]; exact fun z => h151 ((lg_cmp_eq _ _).mpr z))
def isNm (B : Nat → Nat) (n p : Nat) : Bool := tK B n p == 2 && ownI.all (fun i => !(tkWb B n p i))
theorem isNm_y {B : Nat → Nat} {n p : Nat} (h : isNm B n p = true) : tK B n p = 2 ∧ ∀ i, i ∈ ownI → ¬ tkWb B n p i = true := by
  unfold isNm at h
  rw [Bool.and_eq_true, beq_iff_eq, List.all_eq_true] at h
  refine ⟨h.1, fun i hi q => ?_⟩
  have := h.2 i hi
  rw [q] at this
  cases this
theorem isNm_of {B : Nat → Nat} {n p : Nat} (h : tK B n p = 2) (h2 : ∀ i, i ∈ ownI → ¬ tkWb B n p i = true) : isNm B n p = true := by
  unfold isNm
  rw [Bool.and_eq_true, beq_iff_eq, List.all_eq_true]
  exact ⟨h, fun i hi => by have := h2 i hi; simp at this; simp [this]⟩
set_option maxHeartbeats 400000 in
set_option maxRecDepth 100000 in
theorem M_X12_isName {l : Launch} {X : pX} {t g : Nat} {I : pHI} {J : pHJ} {Q : pQ} {n p : Nat} {B : Nat → Nat} (hr : mR0 B n p I J) (h1 : isNm B n p = true → Q (some (.int (nI 1))) I J (pR t g)) (h0 : ¬ isNm B n p = true → Q (some (.int (nI 0))) I J (pR t g)) : pM l X yX12_isName mX12_isName 1 [.ref 67] pK pK I J (pR t g) Q := by
  obtain ⟨e1, e2, hp, hk⟩ := hr
  have hm := mKd_b (B := B) hp
  refine pM_of rfl (fun h => by cases h) rfl pKM (Nat.le_of_ble_eq_true rfl) ?_
  refine pE_aload_n dX12_isName_0 rfl rfl ?_
  refine pE_getI dX12_isName_1 flX12_169 rfl (Or.inl rfl) (by first | assumption | rfl) ?_
  rw [hk.1]
  refine pE_iconst (v := nI 1) dX12_isName_4 rfl ?_
  refine pE_icmp_ne (tgt := 19) dX12_isName_5 (by decide) (fun h5 => ?_) (fun h5 => ?_)
  · have g5 := nq_ne (by omega) (by omega) h5
    refine pE_iconst (v := nI 0) dX12_isName_19 rfl ?_
    refine pE_zret dX12_isName_20 rfl (by first | exact Or.inl nI_0 | exact Or.inr nI_1') rfl ?_
    first
    | exact h0 (fun z => (isNm_y z).2 i hi ((hk.word hi hp (by omega)).mp z1))
    | exact h1 (isNm_of (hm.2.2.1.mp (by omega)) (fun i hi z => z0 i hi ((hk.word hi hp (by omega)).mpr z)))
    | exact h0 (fun z => g5 (hm.2.2.1.mpr (isNm_y z).1))
  · have g5 := nq_eq (by omega) (by omega) h5
    refine pE_aload_n dX12_isName_8 rfl rfl ?_
    refine pE_callV (d' := 0) (as := []) dX12_isName_9 lkX12_219 (cwX12_isOwn _ _) ivX12_isOwn ⟨_, rfl, rfl⟩ (by first | assumption | rfl) rfl rfl (Nat.le_of_ble_eq_true rfl) (by decide) pKK ?_
    refine M_X12_isOwn  (fun i hi z1 => ?_) (fun z0 => ?_)
    · refine pE_if_ne_t (tgt := 19) dX12_isName_12 (by decide) nI_1n0 ?_
      refine pE_iconst (v := nI 0) dX12_isName_19 rfl ?_
      refine pE_zret dX12_isName_20 rfl (by first | exact Or.inl nI_0 | exact Or.inr nI_1') rfl ?_
      first
      | exact h0 (fun z => (isNm_y z).2 i hi ((hk.word hi hp (by omega)).mp z1))
      | exact h1 (isNm_of (hm.2.2.1.mp (by omega)) (fun i hi z => z0 i hi ((hk.word hi hp (by omega)).mpr z)))
      | exact h0 (fun z => g5 (hm.2.2.1.mpr (isNm_y z).1))
    · refine pE_if_ne_f (tgt := 19) dX12_isName_12 (by decide) nI_0 ?_
      refine pE_iconst (v := nI 1) dX12_isName_15 rfl ?_
      refine pE_goto (tgt := 20) dX12_isName_16 (by decide) ?_
      refine pE_zret dX12_isName_20 rfl (by first | exact Or.inl nI_0 | exact Or.inr nI_1') rfl ?_
      first
      | exact h0 (fun z => (isNm_y z).2 i hi ((hk.word hi hp (by omega)).mp z1))
      | exact h1 (isNm_of (hm.2.2.1.mp (by omega)) (fun i hi z => z0 i hi ((hk.word hi hp (by omega)).mpr z)))
      | exact h0 (fun z => g5 (hm.2.2.1.mpr (isNm_y z).1))
set_option maxHeartbeats 400000 in
set_option maxRecDepth 100000 in
theorem M_X12_wantE {l : Launch} {X : pX} {t g : Nat} {I : pHI} {J : pHJ} {Q : pQ} {e : Nat × Nat} {w : Int64} (hf : mFa I e) (hq : Q none I J (pR t g)) : pM l X yX12_want mX12_want 3 [.ref 67, .long w] pK pK I J (pR t g) Q := by
  have h1 := hf.2.1
  refine pM_of rfl (fun h => by cases h) rfl pKM (Nat.le_of_ble_eq_true rfl) ?_
  refine pE_aload_n dX12_want_0 rfl rfl ?_
  refine pE_getI dX12_want_1 flX12_182 rfl (Or.inl rfl) (by first | assumption | rfl) ?_
  rw [hf.1]
  refine pE_if_le (tgt := 8) dX12_want_4 (by decide) (fun h4 => ?_) (fun h4 => ?_)
  · have g4 := nq_le0 (by omega) h4
    omega
  · have g4 := nq_nle0 (by omega) h4
    refine pE_vret dX12_want_7 rfl rfl ?_
    exact hq
set_option maxHeartbeats 400000 in
set_option maxRecDepth 100000 in
theorem M_X12_wantO {l : Launch} {X : pX} {t g : Nat} {I : pHI} {J : pHJ} {Q : pQ} {n p i : Nat} {B : Nat → Nat} (hT : tpM I n B) (hr : mR0 B n p I J) (hi : i ∈ ownI) (hq : ∀ I1 J1, sMR I I1 → jM J J1 → mRd B n I1 J1 (nxW B n i (sOf B n p)) → Q none I1 J1 (pR t g)) : pM l X yX12_want mX12_want 3 [.ref 67, .long (mwJ (kwL i))] pK pK I J (pR t g) Q := by
  refine pM_of rfl (fun h => by cases h) rfl pKM (Nat.le_of_ble_eq_true rfl) ?_
  refine pE_aload_n dX12_want_0 rfl rfl ?_
  refine pE_getI dX12_want_1 flX12_182 rfl (Or.inl rfl) (by first | assumption | rfl) ?_
  rw [hr.1]
  refine pE_if_le (tgt := 8) dX12_want_4 (by decide) (fun h4 => ?_) (fun h4 => ?_)
  · have g4 := nq_le0 (by omega) h4
    refine pE_aload_n dX12_want_8 rfl rfl ?_
    refine pE_lload_n dX12_want_9 rfl rfl ?_
    refine pE_callV (d' := 0) (as := [_]) dX12_want_10 lkX12_223 (cwX12_isWord _ _) ivX12_isWord ⟨_, rfl, rfl⟩ (by first | assumption | rfl) rfl rfl (Nat.le_of_ble_eq_true rfl) (by decide) pKK ?_
    refine M_X12_isWord hr hi (fun z => ?_) (fun z => ?_)
    · refine pE_if_ne_t (tgt := 24) dX12_want_13 (by decide) nI_1n0 ?_
      refine pE_aload_n dX12_want_24 rfl rfl ?_
      refine pE_callV (d' := 2) (as := []) dX12_want_25 lkX12_230 (cwX12_token _ _) ivX12_token ⟨_, rfl, rfl⟩ (by first | assumption | rfl) rfl rfl (Nat.le_of_ble_eq_true rfl) (by decide) pKK ?_
      refine M_X12_tokenN hT hr (fun q => by have := tkWb_k z; omega) (fun I1 J1 x1 y1 x2 => ?_)
      refine pE_vret dX12_want_28 rfl rfl ?_
      first
      | (refine hq I1 J1 x1 y1 ?_
         have e : nxW B n i (sOf B n p) = sOf B n (tE B n p) := by
           rw [sOf, if_neg (fun q => by have := tkWb_k z; omega), nxW, if_pos z]; rfl
         rw [e]; exact x2.rd)
      | (refine hq I1 J x1 jM.rf ?_
         have e : nxW B n i (sOf B n p) = .inl (if tK B n p = 1 then 1 else 2, tQ B n p) := by
           rw [sOf]
           split
           · rfl
           · rw [nxW, if_neg z]
         rw [e]; exact x2.rd)
    · refine pE_if_ne_f (tgt := 24) dX12_want_13 (by decide) nI_0 ?_
      refine pE_aload_n dX12_want_16 rfl rfl ?_
      refine pE_iconst (v := nI 2) dX12_want_17 rfl ?_
      refine pE_callV (d' := 0) (as := [_]) dX12_want_18 lkX12_227 (cwX12_wrong _ _) ivX12_wrong ⟨_, rfl, rfl⟩ (by first | assumption | rfl) rfl rfl (Nat.le_of_ble_eq_true rfl) (by decide) pKK ?_
      refine M_X12_wrong hT hr (by omega) (fun I1 x1 x2 => ?_)
      refine pE_goto (tgt := 28) dX12_want_21 (by decide) ?_
      refine pE_vret dX12_want_28 rfl rfl ?_
      first
      | (refine hq I1 J1 x1 y1 ?_
         have e : nxW B n i (sOf B n p) = sOf B n (tE B n p) := by
           rw [sOf, if_neg (fun q => by have := tkWb_k z; omega), nxW, if_pos z]; rfl
         rw [e]; exact x2.rd)
      | (refine hq I1 J x1 jM.rf ?_
         have e : nxW B n i (sOf B n p) = .inl (if tK B n p = 1 then 1 else 2, tQ B n p) := by
           rw [sOf]
           split
           · rfl
           · rw [nxW, if_neg z]
         rw [e]; exact x2.rd)
  · have g4 := nq_nle0 (by omega) h4
    omega
set_option maxHeartbeats 400000 in
set_option maxRecDepth 100000 in
theorem M_X12_want {l : Launch} {X : pX} {t g : Nat} {I : pHI} {J : pHJ} {Q : pQ} {n i : Nat} {B : Nat → Nat} {s : pRS} (hT : tpM I n B) (hr : mRd B n I J s) (hi : i ∈ ownI) (hq : ∀ I1 J1, sMR I I1 → jM J J1 → mRd B n I1 J1 (nxW B n i s) → Q none I1 J1 (pR t g)) : pM l X yX12_want mX12_want 3 [.ref 67, .long (mwJ (kwL i))] pK pK I J (pR t g) Q := by
  rcases hr with ⟨e, rfl, h⟩ | ⟨p, rfl, h⟩
  · exact M_X12_wantE h (hq I J sMR.rf jM.rf h.rd)
  · exact M_X12_wantO hT h hi hq
set_option maxHeartbeats 400000 in
set_option maxRecDepth 100000 in
theorem M_X12_toldNumberE {l : Launch} {X : pX} {t g : Nat} {I : pHI} {J : pHJ} {Q : pQ} {e : Nat × Nat} {a b : Int32} (hf : mFa I e) (hq : Q (some (.int (nI 0))) I J (pR t g)) : pM l X yX12_toldNumber mX12_toldNumber 3 [.ref 67, .int a, .int b] pK pK I J (pR t g) Q := by
  have h1 := hf.2.1
  refine pM_of rfl (fun h => by cases h) rfl pKM (Nat.le_of_ble_eq_true rfl) ?_
  refine pE_aload_n dX12_toldNumber_0 rfl rfl ?_
  refine pE_getI dX12_toldNumber_1 flX12_182 rfl (Or.inl rfl) (by first | assumption | rfl) ?_
  rw [hf.1]
  refine pE_if_le (tgt := 9) dX12_toldNumber_4 (by decide) (fun h4 => ?_) (fun h4 => ?_)
  · have g4 := nq_le0 (by omega) h4
    omega
  · have g4 := nq_nle0 (by omega) h4
    refine pE_iconst (v := nI 0) dX12_toldNumber_7 rfl ?_
    refine pE_iret dX12_toldNumber_8 rfl rfl ?_
    exact hq
set_option maxHeartbeats 400000 in
set_option maxRecDepth 100000 in
theorem M_X12_toldNumberO {l : Launch} {X : pX} {t g : Nat} {I : pHI} {J : pHJ} {Q : pQ} {n p lo hi : Nat} {B : Nat → Nat} (hT : tpM I n B) (hr : mR0 B n p I J) (hlo : lo < 2 ^ 31) (hhi : hi < 2 ^ 31) (hq : ∀ I1 J1 x, sMR I I1 → jM J J1 → mRd B n I1 J1 (rdN B n lo hi (sOf B n p)) → (∀ pz, rdN B n lo hi (sOf B n p) = .inr pz → x = nI (tV B n p)) → Q (some (.int x)) I1 J1 (pR t g)) : pM l X yX12_toldNumber mX12_toldNumber 3 [.ref 67, .int (nI lo), .int (nI hi)] pK pK I J (pR t g) Q := by
  have hm := mKd_b (B := B) hr.2.2.1
  refine pM_of rfl (fun h => by cases h) rfl pKM (Nat.le_of_ble_eq_true rfl) ?_
  refine pE_aload_n dX12_toldNumber_0 rfl rfl ?_
  refine pE_getI dX12_toldNumber_1 flX12_182 rfl (Or.inl rfl) (by first | assumption | rfl) ?_
  rw [hr.1]
  refine pE_if_le (tgt := 9) dX12_toldNumber_4 (by decide) (fun h4 => ?_) (fun h4 => ?_)
  · have g4 := nq_le0 (by omega) h4
    refine pE_aload_n dX12_toldNumber_9 rfl rfl ?_
    refine pE_getI dX12_toldNumber_10 flX12_169 rfl (Or.inl rfl) (by first | assumption | rfl) ?_
    rw [hr.2.2.2.1]
    refine pE_iconst (v := nI 2) dX12_toldNumber_13 rfl ?_
    refine pE_icmp_eq (tgt := 25) dX12_toldNumber_14 (by decide) (fun h14 => ?_) (fun h14 => ?_)
    · have g14 := nq_eq (by omega) (by omega) h14
      have hk3 := hm.2.2.2.1.mp g14
      have hv := hr.2.2.2.2.2.2.1 hk3
      have hvl := tV_lt (B := B) hr.2.2.1 hk3
      rw [sOf, if_neg (by omega : ¬ tK B n p = 1)] at hq
      refine pE_aload_n dX12_toldNumber_25 rfl rfl ?_
      refine pE_getI dX12_toldNumber_26 flX12_166 rfl (Or.inl rfl) (by first | assumption | rfl) ?_
      rw [hv]
      refine pE_iload_n dX12_toldNumber_29 rfl rfl ?_
      refine pE_icmp_lt (tgt := 41) dX12_toldNumber_30 (by decide) (fun h30 => ?_) (fun h30 => ?_)
      · refine pE_aload_n dX12_toldNumber_41 rfl rfl ?_
        refine pE_iconst (v := nI 4) dX12_toldNumber_42 rfl ?_
        refine pE_callV (d' := 0) (as := [_]) dX12_toldNumber_43 lkX12_227 (cwX12_wrong _ _) ivX12_wrong ⟨_, rfl, rfl⟩ (by first | assumption | rfl) rfl rfl (Nat.le_of_ble_eq_true rfl) (by decide) pKK ?_
        refine M_X12_wrong hT hr (by omega) (fun I1 x1 x2 => ?_)
        have x3 := x2.1
        have x4 := x2.2.1
        simp only at x3 x4
        refine pE_aload_n dX12_toldNumber_46 rfl rfl ?_
        refine pE_getI dX12_toldNumber_47 flX12_166 rfl (Or.inl rfl) (by first | assumption | rfl) ?_
        refine pE_istore_n (lc' := [_, _, _, some (.int _)]) dX12_toldNumber_50 rfl (Nat.le_of_ble_eq_true rfl) rfl rfl ?_
        refine pE_aload_n dX12_toldNumber_51 rfl rfl ?_
        refine pE_getI dX12_toldNumber_52 flX12_182 rfl (Or.inl rfl) (by first | assumption | rfl) ?_
        rw [x3]
        refine pE_if_ne (tgt := 62) dX12_toldNumber_55 (by decide) (fun h55 => ?_) (fun h55 => ?_)
        · have g55 := nq_ne0 (by omega) h55
          refine pE_iload_n dX12_toldNumber_62 rfl rfl ?_
          refine pE_iret dX12_toldNumber_63 rfl rfl ?_
          rw [if_neg (by omega : ¬ tK B n p = 1)] at x2
          have e : rdN B n lo hi (.inr p) = .inl (4, tQ B n p) := by
            rw [rdN, if_pos hk3, if_pos (by first | exact Or.inl (nq_lt (by omega) (by omega) h30) | exact Or.inr (nq_nle (by omega) (by omega) h38))]
          refine hq I1 J _ x1 jM.rf ?_ (fun pz z => by rw [e] at z; cases z)
          rw [e]; exact x2.rd
        · have g55 := nq_eq0 (by omega) h55
          omega
      · refine pE_aload_n dX12_toldNumber_33 rfl rfl ?_
        refine pE_getI dX12_toldNumber_34 flX12_166 rfl (Or.inl rfl) (by first | assumption | rfl) ?_
        rw [hv]
        refine pE_iload_n dX12_toldNumber_37 rfl rfl ?_
        refine pE_icmp_le (tgt := 46) dX12_toldNumber_38 (by decide) (fun h38 => ?_) (fun h38 => ?_)
        · refine pE_aload_n dX12_toldNumber_46 rfl rfl ?_
          refine pE_getI dX12_toldNumber_47 flX12_166 rfl (Or.inl rfl) (by first | assumption | rfl) ?_
          refine pE_istore_n (lc' := [_, _, _, some (.int _)]) dX12_toldNumber_50 rfl (Nat.le_of_ble_eq_true rfl) rfl rfl ?_
          refine pE_aload_n dX12_toldNumber_51 rfl rfl ?_
          refine pE_getI dX12_toldNumber_52 flX12_182 rfl (Or.inl rfl) (by first | assumption | rfl) ?_
          rw [hr.1]
          refine pE_if_ne (tgt := 62) dX12_toldNumber_55 (by decide) (fun h55 => ?_) (fun h55 => ?_)
          · have g55 := nq_ne0 (by omega) h55
            omega
          · have g55 := nq_eq0 (by omega) h55
            refine pE_aload_n dX12_toldNumber_58 rfl rfl ?_
            refine pE_callV (d' := 2) (as := []) dX12_toldNumber_59 lkX12_230 (cwX12_token _ _) ivX12_token ⟨_, rfl, rfl⟩ (by first | assumption | rfl) rfl rfl (Nat.le_of_ble_eq_true rfl) (by decide) pKK ?_
            refine M_X12_tokenN hT hr (by omega) (fun I1 J1 x1 y1 x2 => ?_)
            refine pE_iload_n dX12_toldNumber_62 rfl rfl ?_
            refine pE_iret dX12_toldNumber_63 rfl rfl ?_
            refine hq I1 J1 _ x1 y1 ?_ (fun _ _ => hv)
            rw [rdN, if_pos hk3, if_neg (by
              have a1 := nq_nlt (by omega) (by omega) h30
              have a2 := nq_le (by omega) (by omega) h38
              omega), stp_s]
            exact x2.rd
        · refine pE_aload_n dX12_toldNumber_41 rfl rfl ?_
          refine pE_iconst (v := nI 4) dX12_toldNumber_42 rfl ?_
          refine pE_callV (d' := 0) (as := [_]) dX12_toldNumber_43 lkX12_227 (cwX12_wrong _ _) ivX12_wrong ⟨_, rfl, rfl⟩ (by first | assumption | rfl) rfl rfl (Nat.le_of_ble_eq_true rfl) (by decide) pKK ?_
          refine M_X12_wrong hT hr (by omega) (fun I1 x1 x2 => ?_)
          have x3 := x2.1
          have x4 := x2.2.1
          simp only at x3 x4
          refine pE_aload_n dX12_toldNumber_46 rfl rfl ?_
          refine pE_getI dX12_toldNumber_47 flX12_166 rfl (Or.inl rfl) (by first | assumption | rfl) ?_
          refine pE_istore_n (lc' := [_, _, _, some (.int _)]) dX12_toldNumber_50 rfl (Nat.le_of_ble_eq_true rfl) rfl rfl ?_
          refine pE_aload_n dX12_toldNumber_51 rfl rfl ?_
          refine pE_getI dX12_toldNumber_52 flX12_182 rfl (Or.inl rfl) (by first | assumption | rfl) ?_
          rw [x3]
          refine pE_if_ne (tgt := 62) dX12_toldNumber_55 (by decide) (fun h55 => ?_) (fun h55 => ?_)
          · have g55 := nq_ne0 (by omega) h55
            refine pE_iload_n dX12_toldNumber_62 rfl rfl ?_
            refine pE_iret dX12_toldNumber_63 rfl rfl ?_
            rw [if_neg (by omega : ¬ tK B n p = 1)] at x2
            have e : rdN B n lo hi (.inr p) = .inl (4, tQ B n p) := by
              rw [rdN, if_pos hk3, if_pos (by first | exact Or.inl (nq_lt (by omega) (by omega) h30) | exact Or.inr (nq_nle (by omega) (by omega) h38))]
            refine hq I1 J _ x1 jM.rf ?_ (fun pz z => by rw [e] at z; cases z)
            rw [e]; exact x2.rd
          · have g55 := nq_eq0 (by omega) h55
            omega
    · have g14 := nq_ne (by omega) (by omega) h14
      have hk3 : tK B n p ≠ 3 := fun z => g14 (hm.2.2.2.1.mpr z)
      refine pE_aload_n dX12_toldNumber_17 rfl rfl ?_
      refine pE_iconst (v := nI 2) dX12_toldNumber_18 rfl ?_
      refine pE_callV (d' := 0) (as := [_]) dX12_toldNumber_19 lkX12_227 (cwX12_wrong _ _) ivX12_wrong ⟨_, rfl, rfl⟩ (by first | assumption | rfl) rfl rfl (Nat.le_of_ble_eq_true rfl) (by decide) pKK ?_
      refine M_X12_wrong hT hr (by omega) (fun I1 x1 x2 => ?_)
      have x3 := x2.1
      have x4 := x2.2.1
      simp only at x3 x4
      refine pE_goto (tgt := 46) dX12_toldNumber_22 (by decide) ?_
      refine pE_aload_n dX12_toldNumber_46 rfl rfl ?_
      refine pE_getI dX12_toldNumber_47 flX12_166 rfl (Or.inl rfl) (by first | assumption | rfl) ?_
      refine pE_istore_n (lc' := [_, _, _, some (.int _)]) dX12_toldNumber_50 rfl (Nat.le_of_ble_eq_true rfl) rfl rfl ?_
      refine pE_aload_n dX12_toldNumber_51 rfl rfl ?_
      refine pE_getI dX12_toldNumber_52 flX12_182 rfl (Or.inl rfl) (by first | assumption | rfl) ?_
      rw [x3]
      refine pE_if_ne (tgt := 62) dX12_toldNumber_55 (by decide) (fun h55 => ?_) (fun h55 => ?_)
      · have g55 := nq_ne0 (by omega) h55
        refine pE_iload_n dX12_toldNumber_62 rfl rfl ?_
        refine pE_iret dX12_toldNumber_63 rfl rfl ?_
        have e : rdN B n lo hi (sOf B n p) = .inl (if tK B n p = 1 then 1 else 2, tQ B n p) := by
          rw [sOf]
          split
          · rfl
          · rw [rdN, if_neg hk3]
        refine hq I1 J _ x1 jM.rf ?_ (fun pz z => by rw [e] at z; cases z)
        rw [e]; exact x2.rd
      · have g55 := nq_eq0 (by omega) h55
        omega
  · have g4 := nq_nle0 (by omega) h4
    omega
set_option maxHeartbeats 400000 in
set_option maxRecDepth 100000 in
theorem M_X12_toldNumber {l : Launch} {X : pX} {t g : Nat} {I : pHI} {J : pHJ} {Q : pQ} {n : Nat} {B : Nat → Nat} {s : pRS} {lo hi : Nat} (hT : tpM I n B) (hr : mRd B n I J s) (hlo : lo < 2 ^ 31) (hhi : hi < 2 ^ 31) (hq : ∀ I1 J1 x, sMR I I1 → jM J J1 → mRd B n I1 J1 (rdN B n lo hi s) → (∀ pz, rdN B n lo hi s = .inr pz → x = nI (vlN B n s)) → Q (some (.int x)) I1 J1 (pR t g)) : pM l X yX12_toldNumber mX12_toldNumber 3 [.ref 67, .int (nI lo), .int (nI hi)] pK pK I J (pR t g) Q := by
  rcases hr with ⟨e, rfl, h⟩ | ⟨p, rfl, h⟩
  · exact M_X12_toldNumberE h (hq I J _ sMR.rf jM.rf h.rd (fun p z => by cases z))
  · refine M_X12_toldNumberO hT h hlo hhi (fun I1 J1 x a b d e => hq I1 J1 x a b d (fun p2 z => ?_))
    have e2 := e p2 z
    rw [sOf] at z ⊢
    split at z
    · cases z
    · rename_i k1
      rw [if_neg k1]
      exact e2
set_option maxHeartbeats 400000 in
set_option maxRecDepth 100000 in
theorem M_X12_told {l : Launch} {X : pX} {t g : Nat} {I : pHI} {J : pHJ} {Q : pQ} {n lo hi i : Nat} {B : Nat → Nat} {s : pRS} (hT : tpM I n B) (hr : mRd B n I J s) (hi0 : i ∈ ownI) (hlo : lo < 2 ^ 31) (hhi : hi < 2 ^ 31) (hq : ∀ I1 J1 x, sMR I I1 → jM J J1 → mRd B n I1 J1 (rdN B n lo hi (nxW B n i s)) → (∀ pz, rdN B n lo hi (nxW B n i s) = .inr pz → x = nI (vlN B n (nxW B n i s))) → Q (some (.int x)) I1 J1 (pR t g)) : pM l X yX12_told mX12_told 4 [.ref 67, .long (mwJ (kwL i)), .int (nI lo), .int (nI hi)] pK pK I J (pR t g) Q := by
  refine pM_of rfl (fun h => by cases h) rfl pKM (Nat.le_of_ble_eq_true rfl) ?_
  refine pE_aload_n dX12_told_0 rfl rfl ?_
  refine pE_lload_n dX12_told_1 rfl rfl ?_
  refine pE_callV (d' := 3) (as := [_]) dX12_told_2 lkX12_233 (cwX12_want _ _) ivX12_want ⟨_, rfl, rfl⟩ (by first | assumption | rfl) rfl rfl (Nat.le_of_ble_eq_true rfl) (by decide) pKK ?_
  refine M_X12_want hT hr hi0 (fun I1 J1 x1 y1 z1 => ?_)
  refine pE_aload_n dX12_told_5 rfl rfl ?_
  refine pE_iload_n dX12_told_6 rfl rfl ?_
  refine pE_iload dX12_told_7 rfl ?_
  refine pE_callV (d' := 3) (as := [_, _]) dX12_told_9 lkX12_237 (cwX12_toldNumber _ _) ivX12_toldNumber ⟨_, rfl, rfl⟩ (by first | assumption | rfl) rfl rfl (Nat.le_of_ble_eq_true rfl) (by decide) pKK ?_
  refine M_X12_toldNumber (hT.r x1) z1 hlo hhi (fun I2 J2 x x2 y2 z2 w2 => ?_)
  refine pE_iret dX12_told_12 rfl rfl ?_
  exact hq I2 J2 x (x1.tr x2) (y1.tr y2) z2 w2
def opN (B : Nat → Nat) (n i hi : Nat) (s : pRS) : pRS := if isW B n i s = true then rdN B n 0 hi (nxW B n i s) else s
def opV (B : Nat → Nat) (n i : Nat) (s : pRS) : Nat := if isW B n i s = true then vlN B n (nxW B n i s) else 0
set_option maxHeartbeats 400000 in
set_option maxRecDepth 100000 in
theorem M_X12_optionE {l : Launch} {X : pX} {t g : Nat} {I : pHI} {J : pHJ} {Q : pQ} {e : Nat × Nat} {w : Int64} {a : Int32} (hf : mFa I e) (hq : Q (some (.int (nI 0))) I J (pR t g)) : pM l X yX12_option mX12_option 5 [.ref 67, .long w, .int a] pK pK I J (pR t g) Q := by
  have h1 := hf.2.1
  refine pM_of rfl (fun h => by cases h) rfl pKM (Nat.le_of_ble_eq_true rfl) ?_
  refine pE_aload_n dX12_option_0 rfl rfl ?_
  refine pE_getI dX12_option_1 flX12_182 rfl (Or.inl rfl) (by first | assumption | rfl) ?_
  rw [hf.1]
  refine pE_if_ne (tgt := 25) dX12_option_4 (by decide) (fun h4 => ?_) (fun h4 => ?_)
  · have g4 := nq_ne0 (by omega) h4
    refine pE_iconst (v := nI 0) dX12_option_25 rfl ?_
    refine pE_iret dX12_option_26 rfl rfl ?_
    exact hq
  · have g4 := nq_eq0 (by omega) h4
    omega
set_option maxHeartbeats 400000 in
set_option maxRecDepth 100000 in
theorem M_X12_optionO {l : Launch} {X : pX} {t g : Nat} {I : pHI} {J : pHJ} {Q : pQ} {n p i hi : Nat} {B : Nat → Nat} (hT : tpM I n B) (hr : mR0 B n p I J) (hi0 : i ∈ ownI) (hhi : hi < 2 ^ 31) (hq : ∀ I1 J1 x, sMR I I1 → jM J J1 → mRd B n I1 J1 (opN B n i hi (sOf B n p)) → (∀ pz, opN B n i hi (sOf B n p) = .inr pz → x = nI (opV B n i (sOf B n p))) → Q (some (.int x)) I1 J1 (pR t g)) : pM l X yX12_option mX12_option 5 [.ref 67, .long (mwJ (kwL i)), .int (nI hi)] pK pK I J (pR t g) Q := by
  refine pM_of rfl (fun h => by cases h) rfl pKM (Nat.le_of_ble_eq_true rfl) ?_
  refine pE_aload_n dX12_option_0 rfl rfl ?_
  refine pE_getI dX12_option_1 flX12_182 rfl (Or.inl rfl) (by first | assumption | rfl) ?_
  rw [hr.1]
  refine pE_if_ne (tgt := 25) dX12_option_4 (by decide) (fun h4 => ?_) (fun h4 => ?_)
  · have g4 := nq_ne0 (by omega) h4
    omega
  · have g4 := nq_eq0 (by omega) h4
    refine pE_aload_n dX12_option_7 rfl rfl ?_
    refine pE_lload_n dX12_option_8 rfl rfl ?_
    refine pE_callV (d' := 0) (as := [_]) dX12_option_9 lkX12_223 (cwX12_isWord _ _) ivX12_isWord ⟨_, rfl, rfl⟩ (by first | assumption | rfl) rfl rfl (Nat.le_of_ble_eq_true rfl) (by decide) pKK ?_
    refine M_X12_isWord hr hi0 (fun z => ?_) (fun z => ?_)
    · refine pE_if_eq_f (tgt := 25) dX12_option_12 (by decide) nI_1n0 ?_
      refine pE_aload_n dX12_option_15 rfl rfl ?_
      refine pE_lload_n dX12_option_16 rfl rfl ?_
      refine pE_iconst (v := nI 0) dX12_option_17 rfl ?_
      refine pE_iload_n dX12_option_18 rfl rfl ?_
      refine pE_callV (d' := 4) (as := [_, _, _]) dX12_option_19 lkX12_241 (cwX12_told _ _) ivX12_told ⟨_, rfl, rfl⟩ (by first | assumption | rfl) rfl rfl (Nat.le_of_ble_eq_true rfl) (by decide) pKK ?_
      refine M_X12_told hT hr.rd hi0 (by omega) hhi (fun I1 J1 x x1 y1 z1 w1 => ?_)
      refine pE_goto (tgt := 26) dX12_option_22 (by decide) ?_
      refine pE_iret dX12_option_26 rfl rfl ?_
      first
      | (have e : isW B n i (sOf B n p) = true := by rw [sOf, if_neg (fun q => by have := tkWb_k z; omega)]; exact z
         refine hq I1 J1 x x1 y1 (by rw [opN, if_pos e]; exact z1) (fun p2 h2 => ?_)
         rw [opN, if_pos e] at h2
         rw [opV, if_pos e]
         exact w1 p2 h2)
      | (have e : ¬ isW B n i (sOf B n p) = true := by
           rw [sOf]
           split
           · exact fun y => by cases y
           · exact z
         refine hq I J _ sMR.rf jM.rf (by rw [opN, if_neg e]; exact hr.rd) (fun p2 _ => ?_)
         rw [opV, if_neg e])
    · refine pE_if_eq_t (tgt := 25) dX12_option_12 (by decide) nI_0 ?_
      refine pE_iconst (v := nI 0) dX12_option_25 rfl ?_
      refine pE_iret dX12_option_26 rfl rfl ?_
      first
      | (have e : isW B n i (sOf B n p) = true := by rw [sOf, if_neg (fun q => by have := tkWb_k z; omega)]; exact z
         refine hq I1 J1 x x1 y1 (by rw [opN, if_pos e]; exact z1) (fun p2 h2 => ?_)
         rw [opN, if_pos e] at h2
         rw [opV, if_pos e]
         exact w1 p2 h2)
      | (have e : ¬ isW B n i (sOf B n p) = true := by
           rw [sOf]
           split
           · exact fun y => by cases y
           · exact z
         refine hq I J _ sMR.rf jM.rf (by rw [opN, if_neg e]; exact hr.rd) (fun p2 _ => ?_)
         rw [opV, if_neg e])
set_option maxHeartbeats 400000 in
set_option maxRecDepth 100000 in
theorem M_X12_option {l : Launch} {X : pX} {t g : Nat} {I : pHI} {J : pHJ} {Q : pQ} {n i hi : Nat} {B : Nat → Nat} {s : pRS} (hT : tpM I n B) (hr : mRd B n I J s) (hi0 : i ∈ ownI) (hhi : hi < 2 ^ 31) (hq : ∀ I1 J1 x, sMR I I1 → jM J J1 → mRd B n I1 J1 (opN B n i hi s) → (∀ pz, opN B n i hi s = .inr pz → x = nI (opV B n i s)) → Q (some (.int x)) I1 J1 (pR t g)) : pM l X yX12_option mX12_option 5 [.ref 67, .long (mwJ (kwL i)), .int (nI hi)] pK pK I J (pR t g) Q := by
  rcases hr with ⟨e, rfl, h⟩ | ⟨p, rfl, h⟩
  · exact M_X12_optionE h (hq I J _ sMR.rf jM.rf h.rd (fun p z => by cases z))
  · exact M_X12_optionO hT h hi0 hhi hq
