/-! own words: the text i of the constants -/
def kwL (i : Nat) : List Nat := (List.range (pLen.getD i 0)).map (sCh i)
def oL : Nat → List Nat
  | 0 => []
  | k + 1 => if sCh 4 k = 32 then [] else oL k ++ [sCh 4 k]
def ownI : List Nat := [1, 2, 3, 5, 6, 7, 8, 9, 10, 17, 18, 16, 15, 11, 12, 13, 14]
theorem kw_ok : ∀ i, i ∈ ownI → okW (kwL i) := by unfold okW; decide +kernel
theorem own_in : ∀ k, k < 95 → (k = 94 ∨ sCh 4 k = 32) → ∃ i, i ∈ ownI ∧ oL k = kwL i := by decide +kernel
theorem own_of : ∀ i, i ∈ ownI → ∃ k, k < 95 ∧ ((k = 94 ∨ sCh 4 k = 32) ∧ oL k = kwL i) := by decide +kernel
theorem kw_inj : ∀ i, i ∈ ownI → ∀ j, j ∈ ownI → kwL i = kwL j → i = j := by decide +kernel
/-- the token is the i-th word -/
def tkW (B : Nat → Nat) (n p i : Nat) : Prop := tK B n p = 2 ∧ tL B n p = kwL i
theorem tkC.word {B : Nat → Nat} {n p i : Nat} {I : pHI} {J : pHJ} (h : tkC B n p I J) (hp : p ≤ n) (hi : i ∈ ownI) : (I 4 2 = nI 2 ∧ J 4 7 = cwJ (kwL i)) ↔ tkW B n p i := by
  have hk := tK_le (B := B) hp
  unfold tkW
  rw [h.1, nI_eq (by omega) (by omega)]
  constructor
  · rintro ⟨a, b⟩
    rw [h.2.2.2.2.2 a, cwJ_inj (tL_ok hp a) (kw_ok i hi)] at b
    exact ⟨a, b⟩
  · rintro ⟨a, b⟩
    rw [h.2.2.2.2.2 a, b]
    exact ⟨a, rfl⟩
set_option maxHeartbeats 400000 in
set_option maxRecDepth 100000 in
theorem L_X10_isWord {l : Launch} {X : pX} {t g : Nat} {I : pHI} {J : pHJ} {Q : pQ} {i : Nat} (hi : i < 19) (hk : I 4 2 = nI 2) (h1 : I 4 2 = nI 2 → J 4 7 = cwJ (kwL i) → Q (some (.int (nI 1))) I J (pR t g)) (h0 : ¬ (I 4 2 = nI 2 ∧ J 4 7 = cwJ (kwL i)) → Q (some (.int (nI 0))) I J (pR t g)) : ∀ (fu : Nat) (k : Nat), pLen.getD i 0 - k < fu → (k ≤ pLen.getD i 0) → pE l X mX10_isWord 4 pK 15 [some (.ref 4), some (.ref (1000000 + 2 * i)), some (.long (cwJ ((List.range k).map (sCh i)))), none, some (.int (nI k))] [] pK I J (pR t g) Q := by
  intro fu
  induction fu with
  | zero => intro k hn; exact absurd hn (Nat.not_lt_zero _)
  | succ fu ih =>
    intro k hn hkn
    have hl := sl_ok i hi
    refine pE_iload dX10_isWord_15 rfl ?_
    refine pE_aload_n dX10_isWord_17 rfl rfl ?_
    refine pE_callVS (d' := 1) (as := []) dX10_isWord_18 lkX10_68 (cwJ0_length_8abf5 _ _) ivJ0_length_8abf5 rfl (by first | assumption | decide) rfl rfl (Nat.le_of_ble_eq_true rfl) (by decide) pKK ?_
    refine M_J0_length_8abf5 hi ?_
    refine pE_icmp_ge (tgt := 41) dX10_isWord_21 (by decide) (fun h21 => ?_) (fun h21 => ?_)
    · have g21 := nq_le (by omega) (by omega) h21
      obtain rfl : k = pLen.getD i 0 := by omega
      refine pE_aload_n dX10_isWord_41 rfl rfl ?_
      refine pE_getJ dX10_isWord_42 flX10_30 rfl (by first | assumption | rfl) ?_
      refine pE_lload_n dX10_isWord_45 rfl rfl ?_
      refine pE_lcmp dX10_isWord_46 ?_
      refine pE_if_ne (tgt := 54) dX10_isWord_47 (by decide) (fun h47 => ?_) (fun h47 => ?_)
      · refine pE_iconst (v := nI 0) dX10_isWord_54 rfl ?_
        refine pE_zret dX10_isWord_55 rfl (by first | exact Or.inl nI_0 | exact Or.inr nI_1') rfl ?_
        first
        | exact h1 hk ((lg_cmp_eq _ _).mp h47)
        | exact h0 (fun z => h47 ((lg_cmp_eq _ _).mpr z.2))
      · refine pE_iconst (v := nI 1) dX10_isWord_50 rfl ?_
        refine pE_goto (tgt := 55) dX10_isWord_51 (by decide) ?_
        refine pE_zret dX10_isWord_55 rfl (by first | exact Or.inl nI_0 | exact Or.inr nI_1') rfl ?_
        first
        | exact h1 hk ((lg_cmp_eq _ _).mp h47)
        | exact h0 (fun z => h47 ((lg_cmp_eq _ _).mpr z.2))
    · have g21 := nq_nle (by omega) (by omega) h21
      refine pE_lload_n dX10_isWord_24 rfl rfl ?_
      refine pE_aload_n dX10_isWord_25 rfl rfl ?_
      refine pE_iload dX10_isWord_26 rfl ?_
      refine pE_callVS (d' := 3) (as := [_]) dX10_isWord_28 lkX10_71 (cwJ0_charAt_5068e _ _) ivJ0_charAt_5068e rfl (by first | assumption | decide) rfl rfl (Nat.le_of_ble_eq_true rfl) (by decide) pKK ?_
      refine M_J0_charAt_5068e hi (by omega) ?_
      refine pE_callS (d' := 0) (as := [_, _]) dX10_isWord_31 lkX10_57 (cwX10_withLetter _ _) svX10_withLetter rfl rfl (Nat.le_of_ble_eq_true rfl) (by decide) pKK ?_
      refine M_X10_withLetter ?_
      refine pE_lstore_n (lc' := [_, _, some (.long _), none, _]) dX10_isWord_34 rfl (Nat.le_of_ble_eq_true rfl) rfl rfl ?_
      refine pE_iincN (c0 := 1) (lc' := [_, _, _, _, some (.int _)]) dX10_isWord_35 rfl rfl rfl rfl ?_
      refine pE_goto (tgt := 15) dX10_isWord_38 (by decide) ?_
      refine pE_cg (ih (k + 1) (by omega) (by omega)) (by
          rw [List.range_succ, List.map_append, List.map_singleton, cwJ_s]) rfl rfl rfl rfl
set_option maxHeartbeats 400000 in
set_option maxRecDepth 100000 in
theorem M_X10_isWord {l : Launch} {X : pX} {t g : Nat} {I : pHI} {J : pHJ} {Q : pQ} {i : Nat} (hi : i < 19) (h1 : I 4 2 = nI 2 → J 4 7 = cwJ (kwL i) → Q (some (.int (nI 1))) I J (pR t g)) (h0 : ¬ (I 4 2 = nI 2 ∧ J 4 7 = cwJ (kwL i)) → Q (some (.int (nI 0))) I J (pR t g)) : pM l X yX10_isWord mX10_isWord 4 [.ref 4, .ref (1000000 + 2 * i)] pK pK I J (pR t g) Q := by
  refine pM_of rfl (fun h => by cases h) rfl pKM (Nat.le_of_ble_eq_true rfl) ?_
  refine pE_aload_n dX10_isWord_0 rfl rfl ?_
  refine pE_getI dX10_isWord_1 flX10_15 rfl (Or.inl rfl) (by first | assumption | rfl) ?_
  refine pE_iconst (v := nI 2) dX10_isWord_4 rfl ?_
  refine pE_icmp_eq (tgt := 10) dX10_isWord_5 (by decide) (fun h5 => ?_) (fun h5 => ?_)
  · refine pE_lconst (v := 0) dX10_isWord_10 rfl ?_
    refine pE_lstore_n (lc' := [_, _, some (.long _), none, _]) dX10_isWord_11 rfl (Nat.le_of_ble_eq_true rfl) rfl rfl ?_
    refine pE_iconst (v := nI 0) dX10_isWord_12 rfl ?_
    refine pE_istore (lc' := [_, _, _, _, some (.int _)]) dX10_isWord_13 (Nat.le_of_ble_eq_true rfl) rfl rfl ?_
    exact L_X10_isWord hi h5 h1 h0 (pLen.getD i 0 + 1) 0 (by omega) (by omega)
  · refine pE_iconst (v := nI 0) dX10_isWord_8 rfl ?_
    refine pE_zret dX10_isWord_9 rfl (by exact Or.inl nI_0) rfl ?_
    exact h0 (fun z => h5 z.1)
set_option maxHeartbeats 400000 in
set_option maxRecDepth 100000 in
theorem L_X10_isOwn {l : Launch} {X : pX} {t g : Nat} {I : pHI} {J : pHJ} {Q : pQ}  (h1 : ∀ i, i ∈ ownI → J 4 7 = cwJ (kwL i) → Q (some (.int (nI 1))) I J (pR t g)) (h0 : (∀ i, i ∈ ownI → J 4 7 ≠ cwJ (kwL i)) → Q (some (.int (nI 0))) I J (pR t g)) : ∀ (fu : Nat) (k : Nat) (v4 : Option Value), 94 - k < fu → (k ≤ 94) → (∀ j, j < k → sCh 4 j = 32 → J 4 7 ≠ cwJ (oL j)) → pE l X mX10_isOwnWord 4 pK 4 [some (.ref 4), some (.long (cwJ (oL k))), none, some (.int (nI k)), v4] [] pK I J (pR t g) Q := by
  intro fu
  induction fu with
  | zero => intro k v4 hn; exact absurd hn (Nat.not_lt_zero _)
  | succ fu ih =>
    intro k v4 hn hkn hn
    have hl : pLen.getD 4 0 = 94 := rfl
    refine pE_iload_n dX10_isOwnWord_4 rfl rfl ?_
    refine pE_ldcS (i := 4) dX10_isOwnWord_5 rfl ?_
    refine pE_callVS (d' := 1) (as := []) dX10_isOwnWord_7 lkX10_68 (cwJ0_length_8abf5 _ _) ivJ0_length_8abf5 rfl (by first | assumption | decide) rfl rfl (Nat.le_of_ble_eq_true rfl) (by decide) pKK ?_
    refine M_J0_length_8abf5 (i := 4) (by decide) ?_
    refine pE_icmp_ge (tgt := 57) dX10_isOwnWord_10 (by decide) (fun h10 => ?_) (fun h10 => ?_)
    · have g10 := nq_le (by omega) (by omega) h10
      refine pE_lload_n dX10_isOwnWord_57 rfl rfl ?_
      refine pE_aload_n dX10_isOwnWord_58 rfl rfl ?_
      refine pE_getJ dX10_isOwnWord_59 flX10_30 rfl (by first | assumption | rfl) ?_
      refine pE_lcmp dX10_isOwnWord_62 ?_
      refine pE_if_ne (tgt := 70) dX10_isOwnWord_63 (by decide) (fun h63 => ?_) (fun h63 => ?_)
      · refine pE_iconst (v := nI 0) dX10_isOwnWord_70 rfl ?_
        refine pE_zret dX10_isOwnWord_71 rfl (by first | exact Or.inl nI_0 | exact Or.inr nI_1') rfl ?_
        obtain rfl : k = 94 := by omega
        first
        | (obtain ⟨i, hi, e⟩ := own_in 94 (by omega) (Or.inl rfl)
           exact h1 i hi (by rw [← e]; exact ((lg_cmp_eq _ _).mp h63).symm))
        | (refine h0 (fun i hi z => ?_)
           obtain ⟨j, hj, hs, e⟩ := own_of i hi
           rw [← e] at z
           rcases hs with hs | hs
           · subst hs; exact h63 ((lg_cmp_eq _ _).mpr z.symm)
           · by_cases c : j = 94
             · subst c; exact h63 ((lg_cmp_eq _ _).mpr z.symm)
             · exact hn j (by omega) hs z)
      · refine pE_iconst (v := nI 1) dX10_isOwnWord_66 rfl ?_
        refine pE_goto (tgt := 71) dX10_isOwnWord_67 (by decide) ?_
        refine pE_zret dX10_isOwnWord_71 rfl (by first | exact Or.inl nI_0 | exact Or.inr nI_1') rfl ?_
        obtain rfl : k = 94 := by omega
        first
        | (obtain ⟨i, hi, e⟩ := own_in 94 (by omega) (Or.inl rfl)
           exact h1 i hi (by rw [← e]; exact ((lg_cmp_eq _ _).mp h63).symm))
        | (refine h0 (fun i hi z => ?_)
           obtain ⟨j, hj, hs, e⟩ := own_of i hi
           rw [← e] at z
           rcases hs with hs | hs
           · subst hs; exact h63 ((lg_cmp_eq _ _).mpr z.symm)
           · by_cases c : j = 94
             · subst c; exact h63 ((lg_cmp_eq _ _).mpr z.symm)
             · exact hn j (by omega) hs z)
    · have g10 := nq_nle (by omega) (by omega) h10
      refine pE_ldcS (i := 4) dX10_isOwnWord_13 rfl ?_
      refine pE_iload_n dX10_isOwnWord_15 rfl rfl ?_
      refine pE_callVS (d' := 3) (as := [_]) dX10_isOwnWord_16 lkX10_71 (cwJ0_charAt_5068e _ _) ivJ0_charAt_5068e rfl (by first | assumption | decide) rfl rfl (Nat.le_of_ble_eq_true rfl) (by decide) pKK ?_
      refine M_J0_charAt_5068e (i := 4) (by decide) (by omega) ?_
      refine pE_istore (lc' := [_, _, _, _, some (.int _)]) dX10_isOwnWord_19 (Nat.le_of_ble_eq_true rfl) rfl rfl ?_
      have hc := (sCh_ok 4 (by decide) k (by omega)).2
      refine pE_iload dX10_isOwnWord_21 rfl ?_
      refine pE_bipush (v := nI 32) dX10_isOwnWord_23 rfl ?_
      refine pE_icmp_eq (tgt := 38) dX10_isOwnWord_25 (by decide) (fun h25 => ?_) (fun h25 => ?_)
      · have g25 := nq_eq (by omega) (by omega) h25
        have hb : sCh 4 k = 32 := by have := (sCh_ok 4 (by decide) k (by omega)).2; omega
        refine pE_lload_n dX10_isOwnWord_38 rfl rfl ?_
        refine pE_aload_n dX10_isOwnWord_39 rfl rfl ?_
        refine pE_getJ dX10_isOwnWord_40 flX10_30 rfl (by first | assumption | rfl) ?_
        refine pE_lcmp dX10_isOwnWord_43 ?_
        refine pE_if_ne (tgt := 49) dX10_isOwnWord_44 (by decide) (fun h44 => ?_) (fun h44 => ?_)
        · refine pE_lconst (v := 0) dX10_isOwnWord_49 rfl ?_
          refine pE_lstore_n (lc' := [_, some (.long _), none, _, _]) dX10_isOwnWord_50 rfl (Nat.le_of_ble_eq_true rfl) rfl rfl ?_
          refine pE_iincN (c0 := 1) (lc' := [_, _, _, some (.int _), _]) dX10_isOwnWord_51 rfl rfl rfl rfl ?_
          refine pE_goto (tgt := 4) dX10_isOwnWord_54 (by decide) ?_
          first
          | (have hb2 := hb
             refine pE_cg (ih (k + 1) (some (.int (nI (sCh 4 k)))) (by omega) (by omega) (fun j hj hs => ?_)) ?_ rfl rfl rfl rfl
             · by_cases e : j = k
               · subst e; exact fun z => h44 ((lg_cmp_eq _ _).mpr z.symm)
               · exact hn j (by omega) hs
             · rw [show oL (k + 1) = [] from by rw [oL, if_pos hb2]]; try rfl)
          | (have hb3 : sCh 4 k ≠ 32 := by omega
             refine pE_cg (ih (k + 1) (some (.int (nI (sCh 4 k)))) (by omega) (by omega) (fun j hj hs => ?_)) ?_ rfl rfl rfl rfl
             · by_cases e : j = k
               · subst e; exact absurd hs hb3
               · exact hn j (by omega) hs
             · rw [show oL (k + 1) = oL k ++ [sCh 4 k] from by rw [oL, if_neg hb3], cwJ_s])
        · refine pE_iconst (v := nI 1) dX10_isOwnWord_47 rfl ?_
          refine pE_zret dX10_isOwnWord_48 rfl (by exact Or.inr nI_1') rfl ?_
          obtain ⟨i, hi, e⟩ := own_in k (by omega) (Or.inr hb)
          exact h1 i hi (by rw [← e]; exact ((lg_cmp_eq _ _).mp h44).symm)
      · have g25 := nq_ne (by omega) (by omega) h25
        refine pE_lload_n dX10_isOwnWord_28 rfl rfl ?_
        refine pE_iload dX10_isOwnWord_29 rfl ?_
        refine pE_callS (d' := 0) (as := [_, _]) dX10_isOwnWord_31 lkX10_57 (cwX10_withLetter _ _) svX10_withLetter rfl rfl (Nat.le_of_ble_eq_true rfl) (by decide) pKK ?_
        refine M_X10_withLetter ?_
        refine pE_lstore_n (lc' := [_, some (.long _), none, _, _]) dX10_isOwnWord_34 rfl (Nat.le_of_ble_eq_true rfl) rfl rfl ?_
        refine pE_goto (tgt := 51) dX10_isOwnWord_35 (by decide) ?_
        refine pE_iincN (c0 := 1) (lc' := [_, _, _, some (.int _), _]) dX10_isOwnWord_51 rfl rfl rfl rfl ?_
        refine pE_goto (tgt := 4) dX10_isOwnWord_54 (by decide) ?_
        first
        | (have hb2 := hb
           refine pE_cg (ih (k + 1) (some (.int (nI (sCh 4 k)))) (by omega) (by omega) (fun j hj hs => ?_)) ?_ rfl rfl rfl rfl
           · by_cases e : j = k
             · subst e; exact fun z => h44 ((lg_cmp_eq _ _).mpr z.symm)
             · exact hn j (by omega) hs
           · rw [show oL (k + 1) = [] from by rw [oL, if_pos hb2]]; try rfl)
        | (have hb3 : sCh 4 k ≠ 32 := by omega
           refine pE_cg (ih (k + 1) (some (.int (nI (sCh 4 k)))) (by omega) (by omega) (fun j hj hs => ?_)) ?_ rfl rfl rfl rfl
           · by_cases e : j = k
             · subst e; exact absurd hs hb3
             · exact hn j (by omega) hs
           · rw [show oL (k + 1) = oL k ++ [sCh 4 k] from by rw [oL, if_neg hb3], cwJ_s])
set_option maxHeartbeats 400000 in
set_option maxRecDepth 100000 in
theorem M_X10_isOwnWord {l : Launch} {X : pX} {t g : Nat} {I : pHI} {J : pHJ} {Q : pQ}  (h1 : ∀ i, i ∈ ownI → J 4 7 = cwJ (kwL i) → Q (some (.int (nI 1))) I J (pR t g)) (h0 : (∀ i, i ∈ ownI → J 4 7 ≠ cwJ (kwL i)) → Q (some (.int (nI 0))) I J (pR t g)) : pM l X yX10_isOwnWord mX10_isOwnWord 4 [.ref 4] pK pK I J (pR t g) Q := by
  refine pM_of rfl (fun h => by cases h) rfl pKM (Nat.le_of_ble_eq_true rfl) ?_
  refine pE_lconst (v := 0) dX10_isOwnWord_0 rfl ?_
  refine pE_lstore_n (lc' := [_, some (.long _), none, _, _]) dX10_isOwnWord_1 rfl (Nat.le_of_ble_eq_true rfl) rfl rfl ?_
  refine pE_iconst (v := nI 0) dX10_isOwnWord_2 rfl ?_
  refine pE_istore_n (lc' := [_, _, _, some (.int _), _]) dX10_isOwnWord_3 rfl (Nat.le_of_ble_eq_true rfl) rfl rfl ?_
  exact L_X10_isOwn h1 h0 95 0 _ (by omega) (by omega) (fun j hj => absurd hj (by omega))
set_option maxHeartbeats 400000 in
set_option maxRecDepth 100000 in
theorem M_X10_isName {l : Launch} {X : pX} {t g : Nat} {I : pHI} {J : pHJ} {Q : pQ}  (h1 : I 4 2 = nI 2 → (∀ i, i ∈ ownI → J 4 7 ≠ cwJ (kwL i)) → Q (some (.int (nI 1))) I J (pR t g)) (h0 : (I 4 2 ≠ nI 2 ∨ ∃ i, i ∈ ownI ∧ J 4 7 = cwJ (kwL i)) → Q (some (.int (nI 0))) I J (pR t g)) : pM l X yX10_isName mX10_isName 5 [.ref 4] pK pK I J (pR t g) Q := by
  refine pM_of rfl (fun h => by cases h) rfl pKM (Nat.le_of_ble_eq_true rfl) ?_
  refine pE_aload_n dX10_isName_0 rfl rfl ?_
  refine pE_getI dX10_isName_1 flX10_15 rfl (Or.inl rfl) (by first | assumption | rfl) ?_
  refine pE_iconst (v := nI 2) dX10_isName_4 rfl ?_
  refine pE_icmp_ne (tgt := 19) dX10_isName_5 (by decide) (fun h5 => ?_) (fun h5 => ?_)
  · refine pE_iconst (v := nI 0) dX10_isName_19 rfl ?_
    refine pE_zret dX10_isName_20 rfl (by first | exact Or.inl nI_0 | exact Or.inr nI_1') rfl ?_
    first
    | exact h0 (Or.inl h5)
    | exact h0 (Or.inr ⟨i, hi, z⟩)
    | exact h1 h5' hno
    | exact h1 (by first | exact h5 | exact Decidable.not_not.mp h5) hno
    | exact absurd h12 nI_1n0
    | exact absurd nI_0 h12
  · refine pE_aload_n dX10_isName_8 rfl rfl ?_
    refine pE_callV (d' := 4) (as := []) dX10_isName_9 lkX10_75 (cwX10_isOwnWord _ _) ivX10_isOwnWord ⟨_, rfl, rfl⟩ (by first | assumption | rfl) rfl rfl (Nat.le_of_ble_eq_true rfl) (by decide) pKK ?_
    refine M_X10_isOwnWord  (fun i hi z => ?_) (fun hno => ?_)
    · refine pE_if_ne (tgt := 19) dX10_isName_12 (by decide) (fun h12 => ?_) (fun h12 => ?_)
      · refine pE_iconst (v := nI 0) dX10_isName_19 rfl ?_
        refine pE_zret dX10_isName_20 rfl (by first | exact Or.inl nI_0 | exact Or.inr nI_1') rfl ?_
        first
        | exact h0 (Or.inl h5)
        | exact h0 (Or.inr ⟨i, hi, z⟩)
        | exact h1 h5' hno
        | exact h1 (by first | exact h5 | exact Decidable.not_not.mp h5) hno
        | exact absurd h12 nI_1n0
        | exact absurd nI_0 h12
      · refine pE_iconst (v := nI 1) dX10_isName_15 rfl ?_
        refine pE_goto (tgt := 20) dX10_isName_16 (by decide) ?_
        refine pE_zret dX10_isName_20 rfl (by first | exact Or.inl nI_0 | exact Or.inr nI_1') rfl ?_
        first
        | exact h0 (Or.inl h5)
        | exact h0 (Or.inr ⟨i, hi, z⟩)
        | exact h1 h5' hno
        | exact h1 (by first | exact h5 | exact Decidable.not_not.mp h5) hno
        | exact absurd h12 nI_1n0
        | exact absurd nI_0 h12
    · refine pE_if_ne (tgt := 19) dX10_isName_12 (by decide) (fun h12 => ?_) (fun h12 => ?_)
      · refine pE_iconst (v := nI 0) dX10_isName_19 rfl ?_
        refine pE_zret dX10_isName_20 rfl (by first | exact Or.inl nI_0 | exact Or.inr nI_1') rfl ?_
        first
        | exact h0 (Or.inl h5)
        | exact h0 (Or.inr ⟨i, hi, z⟩)
        | exact h1 h5' hno
        | exact h1 (by first | exact h5 | exact Decidable.not_not.mp h5) hno
        | exact absurd h12 nI_1n0
        | exact absurd nI_0 h12
      · refine pE_iconst (v := nI 1) dX10_isName_15 rfl ?_
        refine pE_goto (tgt := 20) dX10_isName_16 (by decide) ?_
        refine pE_zret dX10_isName_20 rfl (by first | exact Or.inl nI_0 | exact Or.inr nI_1') rfl ?_
        first
        | exact h0 (Or.inl h5)
        | exact h0 (Or.inr ⟨i, hi, z⟩)
        | exact h1 h5' hno
        | exact h1 (by first | exact h5 | exact Decidable.not_not.mp h5) hno
        | exact absurd h12 nI_1n0
        | exact absurd nI_0 h12
set_option maxHeartbeats 400000 in
set_option maxRecDepth 100000 in
theorem M_X10_isSign {l : Launch} {X : pX} {t g : Nat} {I : pHI} {J : pHJ} {Q : pQ} {c : Int32} (h1 : I 4 2 = nI 4 → I 4 6 = c → Q (some (.int (nI 1))) I J (pR t g)) (h0 : ¬ (I 4 2 = nI 4 ∧ I 4 6 = c) → Q (some (.int (nI 0))) I J (pR t g)) : pM l X yX10_isSign mX10_isSign 0 [.ref 4, .int c] pK pK I J (pR t g) Q := by
  refine pM_of rfl (fun h => by cases h) rfl pKM (Nat.le_of_ble_eq_true rfl) ?_
  refine pE_aload_n dX10_isSign_0 rfl rfl ?_
  refine pE_getI dX10_isSign_1 flX10_15 rfl (Or.inl rfl) (by first | assumption | rfl) ?_
  refine pE_iconst (v := nI 4) dX10_isSign_4 rfl ?_
  refine pE_icmp_ne (tgt := 20) dX10_isSign_5 (by decide) (fun h5 => ?_) (fun h5 => ?_)
  · refine pE_iconst (v := nI 0) dX10_isSign_20 rfl ?_
    refine pE_zret dX10_isSign_21 rfl (by first | exact Or.inl nI_0 | exact Or.inr nI_1') rfl ?_
    first
    | exact h0 (fun z => h5 z.1)
    | exact h0 (fun z => h13 z.2)
    | exact h1 (Decidable.not_not.mp h5) (Decidable.not_not.mp h13)
    | exact h1 h5 h13
  · refine pE_aload_n dX10_isSign_8 rfl rfl ?_
    refine pE_getI dX10_isSign_9 flX10_27 rfl (Or.inl rfl) (by first | assumption | rfl) ?_
    refine pE_iload_n dX10_isSign_12 rfl rfl ?_
    refine pE_icmp_ne (tgt := 20) dX10_isSign_13 (by decide) (fun h13 => ?_) (fun h13 => ?_)
    · refine pE_iconst (v := nI 0) dX10_isSign_20 rfl ?_
      refine pE_zret dX10_isSign_21 rfl (by first | exact Or.inl nI_0 | exact Or.inr nI_1') rfl ?_
      first
      | exact h0 (fun z => h5 z.1)
      | exact h0 (fun z => h13 z.2)
      | exact h1 (Decidable.not_not.mp h5) (Decidable.not_not.mp h13)
      | exact h1 h5 h13
    · refine pE_iconst (v := nI 1) dX10_isSign_16 rfl ?_
      refine pE_goto (tgt := 21) dX10_isSign_17 (by decide) ?_
      refine pE_zret dX10_isSign_21 rfl (by first | exact Or.inl nI_0 | exact Or.inr nI_1') rfl ?_
      first
      | exact h0 (fun z => h5 z.1)
      | exact h0 (fun z => h13 z.2)
      | exact h1 (Decidable.not_not.mp h5) (Decidable.not_not.mp h13)
      | exact h1 h5 h13
def s4a (I I1 : pHI) : Prop := ∀ c k, c ≠ 4 → I1 c k = I c k
set_option maxHeartbeats 400000 in
set_option maxRecDepth 100000 in
theorem M_X10_start {l : Launch} {X : pX} {t g : Nat} {I : pHI} {J : pHJ} {Q : pQ} {n : Nat} {B : Nat → Nat} (hn : n ≤ 1600) (hT : ∀ i, i < n → I 1 i &&& 255 = nI (B i) ∧ B i < 256) (hq : ∀ I1 J1, s4a I I1 → j4 J J1 → tpC I1 n B → tkC B n 0 I1 J1 → Q none I1 J1 (pR t g)) : pM l X yX10_start mX10_start 6 [.ref 4, .int (nI n)] pK pK I J (pR t g) Q := by
  refine pM_of rfl (fun h => by cases h) rfl pKM (Nat.le_of_ble_eq_true rfl) ?_
  refine pE_aload_n dX10_start_0 rfl rfl ?_
  refine pE_iconst (v := nI 0) dX10_start_1 rfl ?_
  refine pE_iload_n dX10_start_2 rfl rfl ?_
  refine pE_aload_n dX10_start_3 rfl rfl ?_
  refine pE_getR dX10_start_4 flX10_34 rfl (by first | assumption | rfl) (by first | assumption | rfl) ?_
  refine pE_alenN dX10_start_7 (by first | assumption | rfl) (by decide) ?_
  refine pE_min dX10_start_8 lkX10_38 (by decide) (Nat.le_of_ble_eq_true rfl) ?_
  rw [nI_min _ _ (by omega) (by omega), Nat.min_eq_left hn]
  refine pE_max dX10_start_11 lkX10_44 (by decide) (Nat.le_of_ble_eq_true rfl) ?_
  rw [nI_max _ _ (by omega) (by omega), Nat.max_eq_right (Nat.zero_le _)]
  refine pE_putI dX10_start_14 flX10_9 ftX10 fiX10_1 rfl rfl (by first | assumption | rfl) ?_
  refine pE_aload_n dX10_start_17 rfl rfl ?_
  refine pE_iconst (v := nI 0) dX10_start_18 rfl ?_
  refine pE_putI dX10_start_19 flX10_21 ftX10 fiX10_4 rfl rfl (by first | assumption | rfl) ?_
  have hx : s4a I (pu (pu I 4 1 (nI n)) 4 4 (nI 0)) := fun c k a => by rw [pu_ne _ _ _ a, pu_ne _ _ _ a]
  have hT2 : tpC (pu (pu I 4 1 (nI n)) 4 4 (nI 0)) n B := ⟨by rw [pu_at, if_neg (by omega), pu_at, if_pos ⟨rfl, rfl⟩], hn, fun i hi => by rw [hx 1 i (by omega)]; exact hT i hi⟩
  refine pE_aload_n dX10_start_22 rfl rfl ?_
  refine pE_callV (d' := 5) (as := []) dX10_start_23 lkX10_47 (cwX10_step _ _) ivX10_step ⟨_, rfl, rfl⟩ (by first | assumption | rfl) rfl rfl (Nat.le_of_ble_eq_true rfl) (by decide) pKK ?_
  refine M_X10_step hT2 (Nat.zero_le n) (fun I1 J1 a b d => ?_) (by rw [pu_at, if_pos ⟨rfl, rfl⟩])
  refine pE_vret dX10_start_26 rfl rfl ?_
  exact hq I1 J1 (fun c k e => (a c k (by omega)).trans (hx c k e)) b (hT2.s4 a) d
