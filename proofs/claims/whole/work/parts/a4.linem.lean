/-! the model's lines *) -/
def jN (J J1 : pHJ) : Prop := ∀ c k, ¬ (c = 67 ∧ k = 9) → c ≠ 69 → J1 c k = J c k
theorem jN.rf {J : pHJ} : jN J J := fun _ _ _ _ => rfl
theorem jN.tr {J J1 J2 : pHJ} (h1 : jN J J1) (h2 : jN J1 J2) : jN J J2 := fun c k a b => (h2 c k a b).trans (h1 c k a b)
theorem jM.n {J J1 : pHJ} (h : jM J J1) : jN J J1 := fun c k a _ => h c k a
theorem jN.p69 {J J1 : pHJ} {k : Nat} {x : Int64} (h : jN J J1) : jN J (pu J1 69 k x) := fun c j a b => by
  rw [pu_at, if_neg (fun q => b q.1)]; exact h c j a b
def mNm (L : List (List Nat)) (J : pHJ) : Prop := ∀ k w, L[k]? = some w → J 69 k = mwJ w
theorem mNm.m {L : List (List Nat)} {J J1 : pHJ} (h : mNm L J) (hx : jM J J1) : mNm L J1 := fun k w e => (hx 69 k (by omega)).trans (h k w e)
theorem mNm.app {L : List (List Nat)} {w : List Nat} {J : pHJ} (h : mNm L J) : mNm (L ++ [w]) (pu J 69 L.length (mwJ w)) := fun k v e => by
  rw [pu_at]
  by_cases c : k = L.length
  · subst c
    rw [List.getElem?_append_right (Nat.le_refl _), Nat.sub_self] at e
    cases e
    rw [if_pos ⟨rfl, rfl⟩]
  · have hl := (List.getElem?_eq_some_iff.mp e).1
    rw [List.length_append, List.length_singleton] at hl
    rw [List.getElem?_append_left (by omega)] at e
    rw [if_neg (by omega)]
    exact h k v e
def sML (I I1 : pHI) : Prop := ∀ c k, ¬ (c = 67 ∧ (2 ≤ k ∧ k ≤ 44 ∧ k ≠ 5 ∧ k ≠ 23 ∧ k ≠ 41 ∧ k ≠ 42)) → ¬ (70 ≤ c ∧ c ≤ 72) → c ≠ 76 → c ≠ 78 → ¬ (80 ≤ c ∧ c ≤ 84) → I1 c k = I c k
theorem sML.rf {I : pHI} : sML I I := fun _ _ _ _ _ _ _ => rfl
theorem sML.tr {I I1 I2 : pHI} (h1 : sML I I1) (h2 : sML I1 I2) : sML I I2 := fun c k a b d e f => (h2 c k a b d e f).trans (h1 c k a b d e f)
theorem sMR.l {I I1 : pHI} (h : sMR I I1) : sML I I1 := fun c k a _ _ _ _ => h c k (fun q => a ⟨q.1, by omega⟩)
theorem sMF.l {w : Nat} {I I1 : pHI} (h : sMF w I I1) : sML I I1 := fun c k a b d e f => h c k (fun q => a ⟨q.1, by omega⟩) (fun q => b (by omega)) (fun q => b (by omega)) d
theorem sML.ps {k : Nat} {I I1 : pHI} {x : Int32} (h : sML I I1) (hk : 2 ≤ k ∧ k ≤ 44 ∧ k ≠ 5 ∧ k ≠ 23 ∧ k ≠ 41 ∧ k ≠ 42) : sML I (pu I1 67 k x) := fun c j a b d e f => by
  rw [pu_at, if_neg (fun q => a ⟨q.1, by omega⟩)]; exact h c j a b d e f
theorem sML.pa {c0 k : Nat} {I I1 : pHI} {x : Int32} (h : sML I I1) (hk : c0 = 78 ∨ (80 ≤ c0 ∧ c0 ≤ 84)) : sML I (pu I1 c0 k x) := fun c j a b d e f => by
  rw [pu_at, if_neg (fun q => by omega)]; exact h c j a b d e f
theorem tpM.l {n : Nat} {I I1 : pHI} {B : Nat → Nat} (h : tpM I n B) (hx : sML I I1) : tpM I1 n B :=
  h.fr (hx 67 5 (by omega) (by omega) (by omega) (by omega) (by omega)) (fun i => hx 68 i (by omega) (by omega) (by omega) (by omega) (by omega))
theorem mRd.fr {B : Nat → Nat} {n : Nat} {I I1 : pHI} {J : pHJ} {s : pRS} (h : mRd B n I J s) (h1 : ∀ k, k = 2 ∨ k = 3 ∨ k = 4 ∨ (6 ≤ k ∧ k ≤ 8) → I1 67 k = I 67 k) : mRd B n I1 J s := by
  rcases h with ⟨e, e1, e2⟩ | ⟨p, e1, e2⟩
  · exact Or.inl ⟨e, e1, e2.fr (h1 2 (by omega)) (h1 3 (by omega))⟩
  · exact Or.inr ⟨p, e1, e2.fr h1⟩
set_option maxHeartbeats 400000 in
set_option maxRecDepth 100000 in
theorem L_X12_newNameE {l : Launch} {X : pX} {t g : Nat} {I : pHI} {J : pHJ} {Q : pQ} {m j : Nat} {e : Nat × Nat} (hf : mFa I e) (h39 : I 67 39 = nI m) (hm : m < 100) (hj : j < 100) (hq : Q none I J (pR t g)) : pE l X mX12_newName 3 pK 18 [some (.ref 67), some (.int (nI j))] [] pK I J (pR t g) Q := by
  have h1 := hf.2.1
  refine pE_iload_n dX12_newName_18 rfl rfl ?_
  refine pE_aload_n dX12_newName_19 rfl rfl ?_
  refine pE_getI dX12_newName_20 flX12_248 rfl (Or.inl rfl) (by first | assumption | rfl) ?_
  rw [h39]
  refine pE_icmp_ge (tgt := 58) dX12_newName_23 (by decide) (fun h23 => ?_) (fun h23 => ?_)
  · have g23 := nq_le (by omega) (by omega) h23
    refine pE_aload_n dX12_newName_58 rfl rfl ?_
    refine pE_getI dX12_newName_59 flX12_182 rfl (Or.inl rfl) (by first | assumption | rfl) ?_
    rw [hf.1]
    refine pE_if_le (tgt := 66) dX12_newName_62 (by decide) (fun h62 => ?_) (fun h62 => ?_)
    · have g62 := nq_le0 (by omega) h62
      omega
    · have g62 := nq_nle0 (by omega) h62
      refine pE_vret dX12_newName_65 rfl rfl ?_
      exact hq
  · have g23 := nq_nle (by omega) (by omega) h23
    refine pE_aload_n dX12_newName_26 rfl rfl ?_
    refine pE_getI dX12_newName_27 flX12_182 rfl (Or.inl rfl) (by first | assumption | rfl) ?_
    rw [hf.1]
    refine pE_if_ne (tgt := 58) dX12_newName_30 (by decide) (fun h30 => ?_) (fun h30 => ?_)
    · have g30 := nq_ne0 (by omega) h30
      refine pE_aload_n dX12_newName_58 rfl rfl ?_
      refine pE_getI dX12_newName_59 flX12_182 rfl (Or.inl rfl) (by first | assumption | rfl) ?_
      rw [hf.1]
      refine pE_if_le (tgt := 66) dX12_newName_62 (by decide) (fun h62 => ?_) (fun h62 => ?_)
      · have g62 := nq_le0 (by omega) h62
        omega
      · have g62 := nq_nle0 (by omega) h62
        refine pE_vret dX12_newName_65 rfl rfl ?_
        exact hq
    · have g30 := nq_eq0 (by omega) h30
      omega
set_option maxHeartbeats 400000 in
set_option maxRecDepth 100000 in
theorem L_X12_newName {l : Launch} {X : pX} {t g : Nat} {I : pHI} {J : pHJ} {Q : pQ} {n p : Nat} {B : Nat → Nat} {L : List (List Nat)} (hT : tpM I n B) (hL : mNm L J) (hok : ∀ w, w ∈ L → okW w) (hl : L.length < 8) (h39 : I 67 39 = nI L.length) (hr : mR0 B n p I J) (hnm : isNm B n p = true) (hq : ∀ I1 J1, sMR I I1 → jN J J1 → mRd B n I1 J1 (nmS B n L (sOf B n p)) → (∀ q, nmS B n L (sOf B n p) = .inr q → mNm (L ++ [nmL B n (sOf B n p)]) J1) → Q none I1 J1 (pR t g)) : ∀ (fu : Nat) (j : Nat), L.length - j < fu → (j ≤ L.length) → (∀ k, k < j → L[k]? ≠ some (tL B n p)) → pE l X mX12_newName 3 pK 18 [some (.ref 67), some (.int (nI j))] [] pK I J (pR t g) Q := by
  intro fu
  induction fu with
  | zero => intro j hn; exact absurd hn (Nat.not_lt_zero _)
  | succ fu ih =>
    intro j hn hj hno
    have hk2 := (isNm_y hnm).1
    have hp := hr.2.2.1
    have hs0 : sOf B n p = .inr p := by unfold sOf; rw [if_neg (by omega)]
    have hw := hr.2.2.2.2.2.2.2 hk2
    refine pE_iload_n dX12_newName_18 rfl rfl ?_
    refine pE_aload_n dX12_newName_19 rfl rfl ?_
    refine pE_getI dX12_newName_20 flX12_248 rfl (Or.inl rfl) (by first | assumption | rfl) ?_
    rw [h39]
    refine pE_icmp_ge (tgt := 58) dX12_newName_23 (by decide) (fun h23 => ?_) (fun h23 => ?_)
    · have g23 := nq_le (by omega) (by omega) h23
      refine pE_aload_n dX12_newName_58 rfl rfl ?_
      refine pE_getI dX12_newName_59 flX12_182 rfl (Or.inl rfl) (by first | assumption | rfl) ?_
      rw [hr.1]
      refine pE_if_le (tgt := 66) dX12_newName_62 (by decide) (fun h62 => ?_) (fun h62 => ?_)
      · have g62 := nq_le0 (by omega) h62
        have ej : j = L.length := by omega
        subst ej
        refine pE_aload_n dX12_newName_66 rfl rfl ?_
        refine pE_getR dX12_newName_67 flX12_17 rfl (by first | assumption | rfl) (by first | assumption | rfl) ?_
        refine pE_aload_n dX12_newName_70 rfl rfl ?_
        refine pE_getI dX12_newName_71 flX12_248 rfl (Or.inl rfl) (by first | assumption | rfl) ?_
        rw [h39]
        refine pE_aload_n dX12_newName_74 rfl rfl ?_
        refine pE_getJ dX12_newName_75 flX12_162 rfl (by first | assumption | rfl) ?_
        refine pE_lastoreN dX12_newName_78 (by first | assumption | rfl) (by first | assumption | omega) (by omega) ?_
        refine pE_aload_n dX12_newName_79 rfl rfl ?_
        refine pE_callV (d' := 2) (as := []) dX12_newName_80 lkX12_230 (cwX12_token _ _) ivX12_token ⟨_, rfl, rfl⟩ (by first | assumption | rfl) rfl rfl (Nat.le_of_ble_eq_true rfl) (by decide) pKK ?_
        refine M_X12_tokenN hT (show mR0 B n p I (pu J 69 L.length (J 67 9)) from ⟨hr.1, hr.2.1, hp, hr.2.2.2.1, hr.2.2.2.2.1, hr.2.2.2.2.2.1, hr.2.2.2.2.2.2.1, fun z => by rw [pu_at, if_neg (by omega)]; exact hw⟩) (by omega) (fun I1 J1 x1 y1 x2 => ?_)
        refine pE_vret dX12_newName_83 rfl rfl ?_
        have hnc : ¬ L.contains (tL B n p) = true := fun z => by
          have z2 : tL B n p ∈ L := by simpa using z
          obtain ⟨k, hk, e⟩ := List.mem_iff_getElem.mp z2
          exact hno k hk (by rw [List.getElem?_eq_getElem hk, e])
        have hnS : nmS B n L (sOf B n p) = sOf B n (tE B n p) := by
          rw [hs0, nmS, if_pos hnm, if_neg hnc]; rfl
        refine hq I1 J1 x1 (jN.rf.p69.tr y1.n) (by rw [hnS]; exact x2.rd) (fun q e => ?_)
        have k := hL.app (w := tL B n p)
        rw [← hw] at k
        rw [hs0]
        exact k.m y1
      · have g62 := nq_nle0 (by omega) h62
        omega
    · have g23 := nq_nle (by omega) (by omega) h23
      refine pE_aload_n dX12_newName_26 rfl rfl ?_
      refine pE_getI dX12_newName_27 flX12_182 rfl (Or.inl rfl) (by first | assumption | rfl) ?_
      rw [hr.1]
      refine pE_if_ne (tgt := 58) dX12_newName_30 (by decide) (fun h30 => ?_) (fun h30 => ?_)
      · have g30 := nq_ne0 (by omega) h30
        omega
      · have g30 := nq_eq0 (by omega) h30
        obtain ⟨w, hww⟩ : ∃ w, L[j]? = some w := ⟨_, List.getElem?_eq_getElem (by omega)⟩
        have hJ := hL j w hww
        have hinj := mwJ_inj (hok w (List.mem_of_getElem? hww)) (tL_ok hp hk2)
        refine pE_aload_n dX12_newName_33 rfl rfl ?_
        refine pE_getR dX12_newName_34 flX12_17 rfl (by first | assumption | rfl) (by first | assumption | rfl) ?_
        refine pE_iload_n dX12_newName_37 rfl rfl ?_
        refine pE_laloadN dX12_newName_38 (by first | assumption | rfl) (by first | assumption | omega) (by omega) ?_
        refine pE_aload_n dX12_newName_39 rfl rfl ?_
        refine pE_getJ dX12_newName_40 flX12_162 rfl (by first | assumption | rfl) ?_
        refine pE_lcmp dX12_newName_43 ?_
        refine pE_if_ne (tgt := 52) dX12_newName_44 (by decide) (fun h44 => ?_) (fun h44 => ?_)
        · refine pE_iincN (c0 := 1) (lc' := [_, some (.int _)]) dX12_newName_52 rfl rfl rfl rfl ?_
          refine pE_goto (tgt := 18) dX12_newName_55 (by decide) ?_
          first
          | (have z9 := x2
             have e : w = tL B n p := hinj.mp (by rw [← hJ, ← hw]; exact (lg_cmp_eq _ _).mp h44)
             have hnS : nmS B n L (sOf B n p) = .inl (if tK B n p = 1 then 1 else 3, tQ B n p) := by
               rw [hs0, nmS, if_pos hnm, if_pos (by rw [← e]; simpa using List.mem_of_getElem? hww), if_neg (by omega)]
             exact L_X12_newNameE x2 (m := L.length) ((x1 67 39 (by omega)).trans h39) (by omega) (by omega) (hq I1 J x1 jN.rf (by rw [hnS]; exact x2.rd) (fun q e => by rw [hnS] at e; cases e)))
          | (refine ih (j + 1) (by omega) (by omega) (fun k hk => ?_)
             by_cases c : k = j
             · rw [c, hww]
               intro z
               cases z
               exact h44 ((lg_cmp_eq _ _).mpr (hJ.trans hw.symm))
             · exact hno k (by omega))
        · refine pE_aload_n dX12_newName_47 rfl rfl ?_
          refine pE_iconst (v := nI 3) dX12_newName_48 rfl ?_
          refine pE_callV (d' := 0) (as := [_]) dX12_newName_49 lkX12_227 (cwX12_wrong _ _) ivX12_wrong ⟨_, rfl, rfl⟩ (by first | assumption | rfl) rfl rfl (Nat.le_of_ble_eq_true rfl) (by decide) pKK ?_
          refine M_X12_wrong hT hr (by omega) (fun I1 x1 x2 => ?_)
          refine pE_iincN (c0 := 1) (lc' := [_, some (.int _)]) dX12_newName_52 rfl rfl rfl rfl ?_
          refine pE_goto (tgt := 18) dX12_newName_55 (by decide) ?_
          first
          | (have z9 := x2
             have e : w = tL B n p := hinj.mp (by rw [← hJ, ← hw]; exact (lg_cmp_eq _ _).mp h44)
             have hnS : nmS B n L (sOf B n p) = .inl (if tK B n p = 1 then 1 else 3, tQ B n p) := by
               rw [hs0, nmS, if_pos hnm, if_pos (by rw [← e]; simpa using List.mem_of_getElem? hww), if_neg (by omega)]
             exact L_X12_newNameE x2 (m := L.length) ((x1 67 39 (by omega)).trans h39) (by omega) (by omega) (hq I1 J x1 jN.rf (by rw [hnS]; exact x2.rd) (fun q e => by rw [hnS] at e; cases e)))
          | (refine ih (j + 1) (by omega) (by omega) (fun k hk => ?_)
             by_cases c : k = j
             · rw [c, hww]
               intro z
               cases z
               exact h44 ((lg_cmp_eq _ _).mpr (hJ.trans hw.symm))
             · exact hno k (by omega))
set_option maxHeartbeats 400000 in
set_option maxRecDepth 100000 in
theorem M_X12_newName {l : Launch} {X : pX} {t g : Nat} {I : pHI} {J : pHJ} {Q : pQ} {n p0 : Nat} {B : Nat → Nat} {L : List (List Nat)} (hT : tpM I n B) (hL : mNm L J) (hok : ∀ w, w ∈ L → okW w) (hl : L.length < 8) (h39 : I 67 39 = nI L.length) (hr0 : mR0 B n p0 I J) (hk0 : tK B n p0 ≠ 1) (hq : ∀ I1 J1, sMR I I1 → jN J J1 → mRd B n I1 J1 (nmS B n L (stp B n p0)) → (∀ q, nmS B n L (stp B n p0) = .inr q → mNm (L ++ [nmL B n (stp B n p0)]) J1) → Q none I1 J1 (pR t g)) : pM l X yX12_newName mX12_newName 3 [.ref 67] pK pK I J (pR t g) Q := by
  refine pM_of rfl (fun h => by cases h) rfl pKM (Nat.le_of_ble_eq_true rfl) ?_
  refine pE_aload_n dX12_newName_0 rfl rfl ?_
  refine pE_callV (d' := 2) (as := []) dX12_newName_1 lkX12_230 (cwX12_token _ _) ivX12_token ⟨_, rfl, rfl⟩ (by first | assumption | rfl) rfl rfl (Nat.le_of_ble_eq_true rfl) (by decide) pKK ?_
  refine M_X12_tokenN hT hr0 hk0 (fun I1 J1 x1 y1 x2 => ?_)
  have h391 : I1 67 39 = nI L.length := (x1 67 39 (by omega)).trans h39
  rw [stp_s] at hq
  refine pE_aload_n dX12_newName_4 rfl rfl ?_
  refine pE_callV (d' := 1) (as := []) dX12_newName_5 lkX12_245 (cwX12_isName _ _) ivX12_isName ⟨_, rfl, rfl⟩ (by first | assumption | rfl) rfl rfl (Nat.le_of_ble_eq_true rfl) (by decide) pKK ?_
  refine M_X12_isName x2 (fun zn => ?_) (fun zn => ?_)
  · refine pE_if_ne_t (tgt := 16) dX12_newName_8 (by decide) nI_1n0 ?_
    refine pE_iconst (v := nI 0) dX12_newName_16 rfl ?_
    refine pE_istore_n (lc' := [_, some (.int _)]) dX12_newName_17 rfl (Nat.le_of_ble_eq_true rfl) rfl rfl ?_
    first
    | (have z9 := x4
       have hnS : nmS B n L (sOf B n (tE B n p0)) = .inl (if tK B n (tE B n p0) = 1 then 1 else 2, tQ B n (tE B n p0)) := by
         unfold sOf
         split
         · rfl
         · rw [nmS, if_neg zn]
       exact L_X12_newNameE x4 (m := L.length) ((x3 67 39 (by omega)).trans h391) (by omega) (by omega) (hq I2 J1 (x1.tr x3) y1.n (by rw [hnS]; exact x4.rd) (fun q e => by rw [hnS] at e; cases e)))
    | exact L_X12_newName (hT.r x1) (hL.m y1) hok hl h391 x2 zn (fun I2 J2 a b c d => hq I2 J2 (x1.tr a) (y1.n.tr b) c d) (L.length + 1) 0 (by omega) (by omega) (fun k hk => absurd hk (by omega))
  · refine pE_if_ne_f (tgt := 16) dX12_newName_8 (by decide) nI_0 ?_
    refine pE_aload_n dX12_newName_11 rfl rfl ?_
    refine pE_iconst (v := nI 2) dX12_newName_12 rfl ?_
    refine pE_callV (d' := 0) (as := [_]) dX12_newName_13 lkX12_227 (cwX12_wrong _ _) ivX12_wrong ⟨_, rfl, rfl⟩ (by first | assumption | rfl) rfl rfl (Nat.le_of_ble_eq_true rfl) (by decide) pKK ?_
    refine M_X12_wrong (hT.r x1) x2 (by omega) (fun I2 x3 x4 => ?_)
    refine pE_iconst (v := nI 0) dX12_newName_16 rfl ?_
    refine pE_istore_n (lc' := [_, some (.int _)]) dX12_newName_17 rfl (Nat.le_of_ble_eq_true rfl) rfl rfl ?_
    first
    | (have z9 := x4
       have hnS : nmS B n L (sOf B n (tE B n p0)) = .inl (if tK B n (tE B n p0) = 1 then 1 else 2, tQ B n (tE B n p0)) := by
         unfold sOf
         split
         · rfl
         · rw [nmS, if_neg zn]
       exact L_X12_newNameE x4 (m := L.length) ((x3 67 39 (by omega)).trans h391) (by omega) (by omega) (hq I2 J1 (x1.tr x3) y1.n (by rw [hnS]; exact x4.rd) (fun q e => by rw [hnS] at e; cases e)))
    | exact L_X12_newName (hT.r x1) (hL.m y1) hok hl h391 x2 zn (fun I2 J2 a b c d => hq I2 J2 (x1.tr a) (y1.n.tr b) c d) (L.length + 1) 0 (by omega) (by omega) (fun k hk => absurd hk (by omega))
set_option maxHeartbeats 400000 in
set_option maxRecDepth 100000 in
theorem M_X12_optionB {l : Launch} {X : pX} {t g : Nat} {I : pHI} {J : pHJ} {Q : pQ} {n p : Nat} {B : Nat → Nat} {i : Nat} {a : Int32} (hr : mR0 B n p I J) (hk : tK B n p = 1) (hi0 : i ∈ ownI) (hq : Q (some (.int (nI 0))) I J (pR t g)) : pM l X yX12_option mX12_option 5 [.ref 67, .long (mwJ (kwL i)), .int a] pK pK I J (pR t g) Q := by
  refine pM_of rfl (fun h => by cases h) rfl pKM (Nat.le_of_ble_eq_true rfl) ?_
  refine pE_aload_n dX12_option_0 rfl rfl ?_
  refine pE_getI dX12_option_1 flX12_182 rfl (Or.inl rfl) (by first | assumption | rfl) ?_
  rw [hr.1]
  refine pE_if_ne (tgt := 25) dX12_option_4 (by decide) (fun h4 => ?_) (fun h4 => ?_)
  · have g4 := nq_ne0 (by omega) h4
    omega
  · have g4 := nq_eq0 (by omega) h4
    refine pE_aload_n dX12_option_7 rfl rfl ?_
    refine pE_lload_n dX12_option_8 rfl rfl ?_
    refine pE_callV (d' := 0) (as := [_]) dX12_option_9 lkX12_223 (cwX12_isWord _ _) ivX12_isWord ⟨_, rfl, rfl⟩ (by first | assumption | rfl) rfl rfl (Nat.le_of_ble_eq_true rfl) (by decide) pKK ?_
    refine M_X12_isWord hr hi0 (fun z => ?_) (fun z => ?_)
    · exact absurd (tkWb_k z) (by omega)
    · refine pE_if_eq_t (tgt := 25) dX12_option_12 (by decide) nI_0 ?_
      refine pE_iconst (v := nI 0) dX12_option_25 rfl ?_
      refine pE_iret dX12_option_26 rfl rfl ?_
      exact hq
set_option maxHeartbeats 400000 in
set_option maxRecDepth 100000 in
theorem M_X12_optionX {l : Launch} {X : pX} {t g : Nat} {I : pHI} {J : pHJ} {Q : pQ} {n i hi : Nat} {B : Nat → Nat} {s : pRS} {a : Int32} (hT : tpM I n B) (hr : mRd B n I J s) (hi0 : i ∈ ownI) (hhi : hi < 2 ^ 31) (ha : ∀ q, s = .inr q → a = nI hi) (hq : ∀ I1 J1 x, sMR I I1 → jM J J1 → mRd B n I1 J1 (opN B n i hi s) → (∀ pz, opN B n i hi s = .inr pz → x = nI (opV B n i s)) → Q (some (.int x)) I1 J1 (pR t g)) : pM l X yX12_option mX12_option 5 [.ref 67, .long (mwJ (kwL i)), .int a] pK pK I J (pR t g) Q := by
  rcases hr with ⟨e, rfl, h⟩ | ⟨p, rfl, h⟩
  · exact M_X12_optionE h (hq I J _ sMR.rf jM.rf h.rd (fun p z => by cases z))
  · by_cases k : tK B n p = 1
    · have e : sOf B n p = .inl (1, tQ B n p) := by unfold sOf; rw [if_pos k]
      rw [e] at hq
      refine M_X12_optionB h k hi0 (hq I J _ sMR.rf jM.rf ?_ (fun p z => by cases z))
      have := h.rd (B := B) (n := n)
      rw [e] at this
      exact this
    · have e : sOf B n p = .inr p := by unfold sOf; rw [if_neg k]
      rw [ha p e]
      exact M_X12_optionO hT h hi0 hhi hq
