set_option maxHeartbeats 4000000 in
set_option maxRecDepth 100000 in
theorem M_J6_bitCount_0f7a4 {l : Launch} {X : pX} {t g : Nat} {I : pHI} {J : pHJ} {Q : pQ} {k : Nat} (hk : k < 256) (hq : Q (some (.int (nI (popN k 8)))) I J (pR t g)) : pM l X yJ6_bitCount_0f7a4 mJ6_bitCount_0f7a4 0 [.int (nI k)] pK pK I J (pR t g) Q := by
  refine pM_of rfl (fun h => by cases h) rfl pKM (Nat.le_of_ble_eq_true rfl) ?_
  refine pE_iload_n dJ6_bitCount_0f7a4_0 rfl rfl ?_
  refine pE_iload_n dJ6_bitCount_0f7a4_1 rfl rfl ?_
  refine pE_iconst (v := 1) dJ6_bitCount_0f7a4_2 rfl ?_
  refine pE_iushr dJ6_bitCount_0f7a4_3 ?_
  refine pE_ldcw dJ6_bitCount_0f7a4_4 kcJ6_265 ?_
  refine pE_iand dJ6_bitCount_0f7a4_7 ?_
  refine pE_isub dJ6_bitCount_0f7a4_8 ?_
  refine pE_istore_n (lc' := [some (.int _)]) dJ6_bitCount_0f7a4_9 rfl (Nat.le_of_ble_eq_true rfl) rfl rfl ?_
  refine pE_iload_n dJ6_bitCount_0f7a4_10 rfl rfl ?_
  refine pE_ldcw dJ6_bitCount_0f7a4_11 kcJ6_266 ?_
  refine pE_iand dJ6_bitCount_0f7a4_14 ?_
  refine pE_iload_n dJ6_bitCount_0f7a4_15 rfl rfl ?_
  refine pE_iconst (v := 2) dJ6_bitCount_0f7a4_16 rfl ?_
  refine pE_iushr dJ6_bitCount_0f7a4_17 ?_
  refine pE_ldcw dJ6_bitCount_0f7a4_18 kcJ6_266 ?_
  refine pE_iand dJ6_bitCount_0f7a4_21 ?_
  refine pE_iadd dJ6_bitCount_0f7a4_22 ?_
  refine pE_istore_n (lc' := [some (.int _)]) dJ6_bitCount_0f7a4_23 rfl (Nat.le_of_ble_eq_true rfl) rfl rfl ?_
  refine pE_iload_n dJ6_bitCount_0f7a4_24 rfl rfl ?_
  refine pE_iload_n dJ6_bitCount_0f7a4_25 rfl rfl ?_
  refine pE_iconst (v := 4) dJ6_bitCount_0f7a4_26 rfl ?_
  refine pE_iushr dJ6_bitCount_0f7a4_27 ?_
  refine pE_iadd dJ6_bitCount_0f7a4_28 ?_
  refine pE_ldcw dJ6_bitCount_0f7a4_29 kcJ6_267 ?_
  refine pE_iand dJ6_bitCount_0f7a4_32 ?_
  refine pE_istore_n (lc' := [some (.int _)]) dJ6_bitCount_0f7a4_33 rfl (Nat.le_of_ble_eq_true rfl) rfl rfl ?_
  refine pE_iload_n dJ6_bitCount_0f7a4_34 rfl rfl ?_
  refine pE_iload_n dJ6_bitCount_0f7a4_35 rfl rfl ?_
  refine pE_bipush (v := 8) dJ6_bitCount_0f7a4_36 rfl ?_
  refine pE_iushr dJ6_bitCount_0f7a4_38 ?_
  refine pE_iadd dJ6_bitCount_0f7a4_39 ?_
  refine pE_istore_n (lc' := [some (.int _)]) dJ6_bitCount_0f7a4_40 rfl (Nat.le_of_ble_eq_true rfl) rfl rfl ?_
  refine pE_iload_n dJ6_bitCount_0f7a4_41 rfl rfl ?_
  refine pE_iload_n dJ6_bitCount_0f7a4_42 rfl rfl ?_
  refine pE_bipush (v := 16) dJ6_bitCount_0f7a4_43 rfl ?_
  refine pE_iushr dJ6_bitCount_0f7a4_45 ?_
  refine pE_iadd dJ6_bitCount_0f7a4_46 ?_
  refine pE_istore_n (lc' := [some (.int _)]) dJ6_bitCount_0f7a4_47 rfl (Nat.le_of_ble_eq_true rfl) rfl rfl ?_
  refine pE_iload_n dJ6_bitCount_0f7a4_48 rfl rfl ?_
  refine pE_bipush (v := 63) dJ6_bitCount_0f7a4_49 rfl ?_
  refine pE_iand dJ6_bitCount_0f7a4_51 ?_
  refine pE_iret dJ6_bitCount_0f7a4_52 rfl rfl ?_
  refine cgQ ?_ hq
  clear hq
  revert hk
  revert k
  decide +kernel
set_option maxHeartbeats 4000000 in
set_option maxRecDepth 100000 in
theorem L_X12_members {l : Launch} {X : pX} {t g : Nat} {I : pHI} {J : pHJ} {Q : pQ} {k : Nat} (hk : k < 256) (hq : Q (some (.int (nI (popN k 8)))) I J (pR t g)) : ∀ (n j : Nat), 8 - j < n → j ≤ 8 → pE l X mX12_members 0 pK 4 [some (.int (nI k)), some (.int (nI (popN k j))), some (.int (nI j))] [] pK I J (pR t g) Q := by
  intro n
  induction n with
  | zero => intro j hn hj; exact absurd hn (Nat.not_lt_zero _)
  | succ n ih =>
    intro j hn hj
    refine pE_iload_n dX12_members_4 rfl rfl ?_
    refine pE_bipush (v := nI 8) dX12_members_5 rfl ?_
    refine pE_icmp_ge (tgt := 24) dX12_members_7 (by decide) (fun h7 => ?_) (fun h7 => ?_)
    · have g7 := nq_le (by omega) (by omega) h7
      refine pE_iload_n dX12_members_24 rfl rfl ?_
      refine pE_iret dX12_members_25 rfl rfl ?_
      obtain rfl : j = 8 := by omega
      exact hq
    · have g7 := nq_nle (by omega) (by omega) h7
      refine pE_iload_n dX12_members_10 rfl rfl ?_
      refine pE_iload_n dX12_members_11 rfl rfl ?_
      refine pE_iload_n dX12_members_12 rfl rfl ?_
      refine pE_ishr dX12_members_13 ?_
      refine pE_iconst (v := 1) dX12_members_14 rfl ?_
      rw [show (1 : Int32) = nI 1 from rfl]
      refine pE_iand dX12_members_15 ?_
      rw [sh_bit hk (by omega)]
      refine pE_iaddN dX12_members_16 ?_
      refine pE_istore_n (lc' := [_, some (.int _), _]) dX12_members_17 rfl (Nat.le_of_ble_eq_true rfl) rfl rfl ?_
      refine pE_iincN (c0 := 1) (lc' := [_, _, some (.int _)]) dX12_members_18 rfl rfl rfl rfl ?_
      refine pE_goto (tgt := 4) dX12_members_21 (by decide) ?_
      exact ih (j + 1) (by omega) (by omega)
set_option maxHeartbeats 4000000 in
set_option maxRecDepth 100000 in
theorem M_X12_members {l : Launch} {X : pX} {t g : Nat} {I : pHI} {J : pHJ} {Q : pQ} {k : Nat} (hk : k < 256) (hq : Q (some (.int (nI (popN k 8)))) I J (pR t g)) : pM l X yX12_members mX12_members 0 [.int (nI k)] pK pK I J (pR t g) Q := by
  refine pM_of rfl (fun h => by cases h) rfl pKM (Nat.le_of_ble_eq_true rfl) ?_
  refine pE_iconst (v := nI 0) dX12_members_0 rfl ?_
  refine pE_istore_n (lc' := [_, some (.int _), _]) dX12_members_1 rfl (Nat.le_of_ble_eq_true rfl) rfl rfl ?_
  refine pE_iconst (v := nI 0) dX12_members_2 rfl ?_
  refine pE_istore_n (lc' := [_, _, some (.int _)]) dX12_members_3 rfl (Nat.le_of_ble_eq_true rfl) rfl rfl ?_
  exact L_X12_members hk hq 9 0 (by omega) (by omega)
set_option maxHeartbeats 4000000 in
set_option maxRecDepth 100000 in
theorem L_X11_breathTogether {l : Launch} {X : pX} {t g : Nat} {I : pHI} {J : pHJ} {Q : pQ} {k : Nat} {H T : pN} (ht : isH t) (hH : cH t H I) (hr : rH H) (hS : cS 33 T I) (hrT : rS 999 H T) (hk : k < 256) (hq : Q (some (.int (nI (sumB T k (H 1))))) I J (pR t g)) : ∀ (n j : Nat), H 1 - j < n → j ≤ H 1 → pE l X mX11_breathTogether 0 pK 4 [some (.ref 0), some (.int (nI k)), some (.int (nI (sumB T k j))), some (.int (nI j))] [] pK I J (pR t g) Q := by
  obtain ⟨fHFht0, fHFht1, fHFht2, fHFht3, fHFht4, fHFht5, fHFht6, fHFht7, fHFht8, fHFht9, fHFht10, fHFht11, fHFht12, fHFht13, fHFht14, fHFht15, fHFht16, fHFht17, fHFht18, fHFht19, fHFht20, fHFht21, fHFht22, fHFht23, fHFht24, fHFht25, fHFht26⟩ := HF t g ht
  intro n
  induction n with
  | zero => intro j hn hj; exact absurd hn (Nat.not_lt_zero _)
  | succ n ih =>
    intro j hn hj
    have hn8 := hr.2.1
    have hbl := bitN_le k j
    refine pE_iload_n dX11_breathTogether_4 rfl rfl ?_
    refine pE_aload_n dX11_breathTogether_5 rfl rfl ?_
    refine pE_getR dX11_breathTogether_6 flX11_29 rfl (by first | assumption | rfl) (by first | assumption | rfl) ?_
    refine pE_getI dX11_breathTogether_9 flX11_110 rfl (Or.inl rfl) (by first | assumption | rfl) ?_
    rw [hH.2.2.1]
    refine pE_icmp_ge (tgt := 42) dX11_breathTogether_12 (by decide) (fun h12 => ?_) (fun h12 => ?_)
    · have g12 := nq_le (by omega) (by omega) h12
      refine pE_iload_n dX11_breathTogether_42 rfl rfl ?_
      refine pE_iret dX11_breathTogether_43 rfl rfl ?_
      obtain rfl : j = H 1 := by omega
      exact hq
    · have g12 := nq_nle (by omega) (by omega) h12
      refine pE_iload_n dX11_breathTogether_15 rfl rfl ?_
      refine pE_iload_n dX11_breathTogether_16 rfl rfl ?_
      refine pE_ishr dX11_breathTogether_17 ?_
      refine pE_iconst (v := nI 1) dX11_breathTogether_18 rfl ?_
      refine pE_iand dX11_breathTogether_19 ?_
      rw [sh_bit hk (by omega)]
      refine pE_iconst (v := nI 1) dX11_breathTogether_20 rfl ?_
      refine pE_icmp_ne (tgt := 36) dX11_breathTogether_21 (by decide) (fun h21 => ?_) (fun h21 => ?_)
      · have g21 := nq_ne (by omega) (by omega) h21
        refine pE_iincN (c0 := 1) (lc' := [_, _, _, some (.int _)]) dX11_breathTogether_36 rfl rfl rfl rfl ?_
        refine pE_goto (tgt := 4) dX11_breathTogether_39 (by decide) ?_
        refine pE_cg (ih (j + 1) (by omega) (by omega)) (by
            simp only [sumB]
            first | (rw [if_pos g21]; first | done | rfl) | (rw [if_neg g21]; first | done | rfl)) rfl rfl rfl rfl
      · have g21 := nq_eq (by omega) (by omega) h21
        refine pE_iload_n dX11_breathTogether_24 rfl rfl ?_
        refine pE_aload_n dX11_breathTogether_25 rfl rfl ?_
        refine pE_getR dX11_breathTogether_26 flX11_39 rfl (by first | assumption | rfl) (by first | assumption | rfl) ?_
        refine pE_getR dX11_breathTogether_29 flX11_139 rfl (by first | assumption | rfl) (by first | assumption | rfl) ?_
        refine pE_iload_n dX11_breathTogether_32 rfl rfl ?_
        refine pE_ialoadN dX11_breathTogether_33 (by first | assumption | rfl) (by first | assumption | omega) (by omega) ?_
        rw [(hS.2.2.2.2 j (by omega)).1]
        refine pE_iaddN dX11_breathTogether_34 ?_
        refine pE_istore_n (lc' := [_, _, some (.int _), _]) dX11_breathTogether_35 rfl (Nat.le_of_ble_eq_true rfl) rfl rfl ?_
        refine pE_iincN (c0 := 1) (lc' := [_, _, _, some (.int _)]) dX11_breathTogether_36 rfl rfl rfl rfl ?_
        refine pE_goto (tgt := 4) dX11_breathTogether_39 (by decide) ?_
        refine pE_cg (ih (j + 1) (by omega) (by omega)) (by
            simp only [sumB]
            first | (rw [if_pos g21]; first | done | rfl) | (rw [if_neg g21]; first | done | rfl)) rfl rfl rfl rfl
set_option maxHeartbeats 4000000 in
set_option maxRecDepth 100000 in
theorem M_X11_breathTogether {l : Launch} {X : pX} {t g : Nat} {I : pHI} {J : pHJ} {Q : pQ} {k : Nat} {H T : pN} (ht : isH t) (hH : cH t H I) (hr : rH H) (hS : cS 33 T I) (hrT : rS 999 H T) (hk : k < 256) (hq : Q (some (.int (nI (sumB T k (H 1))))) I J (pR t g)) : pM l X yX11_breathTogether mX11_breathTogether 0 [.ref 0, .int (nI k)] pK pK I J (pR t g) Q := by
  refine pM_of rfl (fun h => by cases h) rfl pKM (Nat.le_of_ble_eq_true rfl) ?_
  refine pE_iconst (v := nI 0) dX11_breathTogether_0 rfl ?_
  refine pE_istore_n (lc' := [_, _, some (.int _), _]) dX11_breathTogether_1 rfl (Nat.le_of_ble_eq_true rfl) rfl rfl ?_
  refine pE_iconst (v := nI 0) dX11_breathTogether_2 rfl ?_
  refine pE_istore_n (lc' := [_, _, _, some (.int _)]) dX11_breathTogether_3 rfl (Nat.le_of_ble_eq_true rfl) rfl rfl ?_
  exact L_X11_breathTogether ht hH hr hS hrT hk hq (H 1 + 1) 0 (by omega) (by omega)
set_option maxHeartbeats 4000000 in
set_option maxRecDepth 100000 in
theorem L_X11_team {l : Launch} {X : pX} {t g : Nat} {I : pHI} {J : pHJ} {Q : pQ} {s w : Nat} {H T : pN} (ht : isH t) (hH : cH t H I) (hr : rH H) (hS : cS 33 T I) (hrT : rS 999 H T) (hs : s ≤ 400) (hw : w ≤ 1) (hq : Q (some (.int (tmA (tmN (fun k => sumB T k (H 1)) s (2 ^ H 1)) w))) I J (pR t g)) : ∀ (n j : Nat) (v6 : Option Value), 2 ^ H 1 - j < n → j ≤ 2 ^ H 1 → pE l X mX11_team 1 pK 31 [some (.ref 0), some (.int (nI s)), some (.int (nI w)), some (.int (oI (tmN (fun k => sumB T k (H 1)) s j))), some (.int (nI (twF (tmN (fun k => sumB T k (H 1)) s j)))), some (.int (nI j)), v6] [] pK I J (pR t g) Q := by
  obtain ⟨fHFht0, fHFht1, fHFht2, fHFht3, fHFht4, fHFht5, fHFht6, fHFht7, fHFht8, fHFht9, fHFht10, fHFht11, fHFht12, fHFht13, fHFht14, fHFht15, fHFht16, fHFht17, fHFht18, fHFht19, fHFht20, fHFht21, fHFht22, fHFht23, fHFht24, fHFht25, fHFht26⟩ := HF t g ht
  intro n
  induction n with
  | zero => intro j v6 hn hj; exact absurd hn (Nat.not_lt_zero _)
  | succ n ih =>
    intro j v6 hn hj
    have hn8 := hr.2.1
    have hp2 := p2_le hn8
    have hsb : ∀ k, sumB T k (H 1) ≤ 320 := fun k => by
      have h1 := sumB_le (T := T) (B := 40) k (H 1) (fun j hj => (hrT.2.2.2.2 j (by omega)).1)
      omega
    have hpp := popN_le j 8
    have htw := twF_le (tmN (fun k => sumB T k (H 1)) s j)
    have hsj := hsb j
    refine pE_iload dX11_team_31 rfl ?_
    refine pE_iconst (v := nI 1) dX11_team_33 rfl ?_
    refine pE_aload_n dX11_team_34 rfl rfl ?_
    refine pE_getR dX11_team_35 flX11_29 rfl (by first | assumption | rfl) (by first | assumption | rfl) ?_
    refine pE_getI dX11_team_38 flX11_110 rfl (Or.inl rfl) (by first | assumption | rfl) ?_
    rw [hH.2.2.1]
    refine pE_ishl dX11_team_41 ?_
    rw [one_shl hn8]
    refine pE_icmp_ge (tgt := 82) dX11_team_42 (by decide) (fun h42 => ?_) (fun h42 => ?_)
    · have g42 := nq_le (by omega) (by omega) h42
      obtain rfl : j = 2 ^ H 1 := by omega
      refine pE_iload_n dX11_team_82 rfl rfl ?_
      refine pE_iconst (v := -1) dX11_team_83 rfl ?_
      refine pE_icmp_ne (tgt := 89) dX11_team_84 (by decide) (fun h84 => ?_) (fun h84 => ?_)
      · obtain ⟨b, eb⟩ := oI_some h84
        rw [eb] at hq ⊢
        refine pE_iload_n dX11_team_89 rfl rfl ?_
        refine pE_if_ne (tgt := 98) dX11_team_90 (by decide) (fun h90 => ?_) (fun h90 => ?_)
        · have g90 := nq_ne0 (by omega) h90
          refine pE_iload_n dX11_team_98 rfl rfl ?_
          refine pE_iret dX11_team_99 rfl rfl ?_
          first | exact hq | (have e0 : w = 0 := (by omega); subst e0; exact hq) | (have e0 : w = 1 := (by omega); subst e0; exact hq)
        · have g90 := nq_eq0 (by omega) h90
          refine pE_iload dX11_team_93 rfl ?_
          refine pE_goto (tgt := 99) dX11_team_95 (by decide) ?_
          refine pE_iret dX11_team_99 rfl rfl ?_
          first | exact hq | (have e0 : w = 0 := (by omega); subst e0; exact hq) | (have e0 : w = 1 := (by omega); subst e0; exact hq)
      · have eb := oI_none (fun b hb => by have := tmN_lt hb; omega) h84
        rw [eb] at hq
        refine pE_iconst (v := -1) dX11_team_87 rfl ?_
        refine pE_iret dX11_team_88 rfl rfl ?_
        exact hq
    · have g42 := nq_nle (by omega) (by omega) h42
      refine pE_iload dX11_team_45 rfl ?_
      refine pE_callS (d' := 0) (as := [_]) dX11_team_47 lkX11_288 (cwJ6_bitCount_0f7a4 _ _) svJ6_bitCount_0f7a4 rfl rfl (Nat.le_of_ble_eq_true rfl) (by decide) pKK ?_
      refine M_J6_bitCount_0f7a4 (by omega) ?_
      refine pE_istore (lc' := [_, _, _, _, _, _, some (.int _)]) dX11_team_50 (Nat.le_of_ble_eq_true rfl) rfl rfl ?_
      refine pE_iload dX11_team_52 rfl ?_
      refine pE_iload dX11_team_54 rfl ?_
      refine pE_icmp_ge (tgt := 76) dX11_team_56 (by decide) (fun h56 => ?_) (fun h56 => ?_)
      · have g56 := nq_le (by omega) (by omega) h56
        refine pE_iincN (c0 := 1) (lc' := [_, _, _, _, _, some (.int _), _]) dX11_team_76 rfl rfl rfl rfl ?_
        refine pE_goto (tgt := 31) dX11_team_79 (by decide) ?_
        refine pE_cg (ih (j + 1) (some (.int (nI (popN j 8)))) (by omega) (by omega)) (by
            first
            | (rw [tm_no2 (f := (fun k => sumB T k (H 1))) (by omega)]; first | done | rfl)
            | (rw [tm_no1 (f := (fun k => sumB T k (H 1))) (show ¬ s ≤ sumB T j (H 1) by omega)]; first | done | rfl)
            | (rw [tm_yes (f := (fun k => sumB T k (H 1))) (show s ≤ sumB T j (H 1) by omega) (by omega)]; first | done | rfl)) rfl rfl rfl rfl
      · have g56 := nq_nle (by omega) (by omega) h56
        refine pE_aload_n dX11_team_59 rfl rfl ?_
        refine pE_iload dX11_team_60 rfl ?_
        refine pE_callV (d' := 0) (as := [_]) dX11_team_62 lkX11_293 (cwX11_breathTogether _ _) ivX11_breathTogether ⟨_, rfl, rfl⟩ (by first | assumption | rfl) rfl rfl (Nat.le_of_ble_eq_true rfl) (by decide) pKK ?_
        refine M_X11_breathTogether ht hH hr hS hrT (by omega) ?_
        refine pE_iload_n dX11_team_65 rfl rfl ?_
        refine pE_icmp_lt (tgt := 76) dX11_team_66 (by decide) (fun h66 => ?_) (fun h66 => ?_)
        · have g66 := nq_lt (by omega) (by omega) h66
          refine pE_iincN (c0 := 1) (lc' := [_, _, _, _, _, some (.int _), _]) dX11_team_76 rfl rfl rfl rfl ?_
          refine pE_goto (tgt := 31) dX11_team_79 (by decide) ?_
          refine pE_cg (ih (j + 1) (some (.int (nI (popN j 8)))) (by omega) (by omega)) (by
              first
              | (rw [tm_no2 (f := (fun k => sumB T k (H 1))) (by omega)]; first | done | rfl)
              | (rw [tm_no1 (f := (fun k => sumB T k (H 1))) (show ¬ s ≤ sumB T j (H 1) by omega)]; first | done | rfl)
              | (rw [tm_yes (f := (fun k => sumB T k (H 1))) (show s ≤ sumB T j (H 1) by omega) (by omega)]; first | done | rfl)) rfl rfl rfl rfl
        · have g66 := nq_nlt (by omega) (by omega) h66
          refine pE_iload dX11_team_69 rfl ?_
          refine pE_istore_n (lc' := [_, _, _, some (.int _), _, _, _]) dX11_team_71 rfl (Nat.le_of_ble_eq_true rfl) rfl rfl ?_
          refine pE_iload dX11_team_72 rfl ?_
          refine pE_istore (lc' := [_, _, _, _, some (.int _), _, _]) dX11_team_74 (Nat.le_of_ble_eq_true rfl) rfl rfl ?_
          refine pE_iincN (c0 := 1) (lc' := [_, _, _, _, _, some (.int _), _]) dX11_team_76 rfl rfl rfl rfl ?_
          refine pE_goto (tgt := 31) dX11_team_79 (by decide) ?_
          refine pE_cg (ih (j + 1) (some (.int (nI (popN j 8)))) (by omega) (by omega)) (by
              first
              | (rw [tm_no2 (f := (fun k => sumB T k (H 1))) (by omega)]; first | done | rfl)
              | (rw [tm_no1 (f := (fun k => sumB T k (H 1))) (show ¬ s ≤ sumB T j (H 1) by omega)]; first | done | rfl)
              | (rw [tm_yes (f := (fun k => sumB T k (H 1))) (show s ≤ sumB T j (H 1) by omega) (by omega)]; first | done | rfl)) rfl rfl rfl rfl
set_option maxHeartbeats 4000000 in
set_option maxRecDepth 100000 in
theorem M_X11_team {l : Launch} {X : pX} {t g : Nat} {I : pHI} {J : pHJ} {Q : pQ} {x y : Int32} {H T : pN} (ht : isH t) (hH : cH t H I) (hr : rH H) (hS : cS 33 T I) (hrT : rS 999 H T) (h1 : ∀ s, s ≤ 400 → x = nI s → ∀ w, w ≤ 1 → y = nI w → Q (some (.int (tmA (tmN (fun k => sumB T k (H 1)) s (2 ^ H 1)) w))) I J (pR t g)) (h0 : ((∀ s, s ≤ 400 → x ≠ nI s) ∨ (∀ w, w ≤ 1 → y ≠ nI w)) → Q (some (.int (-1))) I J (pR t g)) : pM l X yX11_team mX11_team 1 [.ref 0, .int x, .int y] pK pK I J (pR t g) Q := by
  refine pM_of rfl (fun h => by cases h) rfl pKM (Nat.le_of_ble_eq_true rfl) ?_
  rcases nI_or x with hx | ⟨s, hs, rfl⟩
  · refine pE_iload_n dX11_team_0 rfl rfl ?_
    refine pE_if_lt (tgt := 20) dX11_team_1 (by decide) (fun h1' => ?_) (fun h1' => ?_)
    · refine pE_iconst (v := -1) dX11_team_20 rfl ?_
      refine pE_iret dX11_team_21 rfl rfl ?_
      exact h0 (Or.inl (fun s hs e => by rw [e] at hx; exact absurd hx (nI_pos (by omega))))
    · exact absurd hx h1'
  · rcases nI_or y with hy | ⟨w, hw, rfl⟩
    · refine pE_iload_n dX11_team_0 rfl rfl ?_
      refine pE_if_lt (tgt := 20) dX11_team_1 (by decide) (fun h1' => ?_) (fun h1' => ?_)
      · exact absurd h1' (nI_pos (by omega))
      · refine pE_iload_n dX11_team_4 rfl rfl ?_
        refine pE_sipush (v := nI 400) dX11_team_5 rfl ?_
        refine pE_icmp_gt (tgt := 20) dX11_team_8 (by decide) (fun h8 => ?_) (fun h8 => ?_)
        · have g8 := nq_lt (by omega) (by omega) h8
          refine pE_iconst (v := -1) dX11_team_20 rfl ?_
          refine pE_iret dX11_team_21 rfl rfl ?_
          first | exact h0 (Or.inl (fun s hs e => by have := nq_eq (by omega) (by omega) e; omega)) | exact h0 (Or.inr (fun s hs e => by rw [e] at hy; exact absurd hy (nI_pos (by omega))))
        · have g8 := nq_nlt (by omega) (by omega) h8
          refine pE_iload_n dX11_team_11 rfl rfl ?_
          refine pE_if_lt (tgt := 20) dX11_team_12 (by decide) (fun h12' => ?_) (fun h12' => ?_)
          · refine pE_iconst (v := -1) dX11_team_20 rfl ?_
            refine pE_iret dX11_team_21 rfl rfl ?_
            first | exact h0 (Or.inl (fun s hs e => by have := nq_eq (by omega) (by omega) e; omega)) | exact h0 (Or.inr (fun s hs e => by rw [e] at hy; exact absurd hy (nI_pos (by omega))))
          · exact absurd hy h12'
    · refine pE_iload_n dX11_team_0 rfl rfl ?_
      refine pE_if_lt (tgt := 20) dX11_team_1 (by decide) (fun h1' => ?_) (fun h1' => ?_)
      · exact absurd h1' (nI_pos (by omega))
      · refine pE_iload_n dX11_team_4 rfl rfl ?_
        refine pE_sipush (v := nI 400) dX11_team_5 rfl ?_
        refine pE_icmp_gt (tgt := 20) dX11_team_8 (by decide) (fun h8 => ?_) (fun h8 => ?_)
        · have g8 := nq_lt (by omega) (by omega) h8
          refine pE_iconst (v := -1) dX11_team_20 rfl ?_
          refine pE_iret dX11_team_21 rfl rfl ?_
          first | exact h0 (Or.inl (fun s hs e => by have := nq_eq (by omega) (by omega) e; omega)) | exact h0 (Or.inr (fun s hs e => by have := nq_eq (by omega) (by omega) e; omega))
        · have g8 := nq_nlt (by omega) (by omega) h8
          refine pE_iload_n dX11_team_11 rfl rfl ?_
          refine pE_if_lt (tgt := 20) dX11_team_12 (by decide) (fun h12' => ?_) (fun h12' => ?_)
          · exact absurd h12' (nI_pos (by omega))
          · refine pE_iload_n dX11_team_15 rfl rfl ?_
            refine pE_iconst (v := nI 1) dX11_team_16 rfl ?_
            refine pE_icmp_le (tgt := 22) dX11_team_17 (by decide) (fun h17 => ?_) (fun h17 => ?_)
            · have g17 := nq_le (by omega) (by omega) h17
              refine pE_iconst (v := -1) dX11_team_22 rfl ?_
              refine pE_istore_n (lc' := [_, _, _, some (.int _), _, _, _]) dX11_team_23 rfl (Nat.le_of_ble_eq_true rfl) rfl rfl ?_
              refine pE_bipush (v := nI 9) dX11_team_24 rfl ?_
              refine pE_istore (lc' := [_, _, _, _, some (.int _), _, _]) dX11_team_26 (Nat.le_of_ble_eq_true rfl) rfl rfl ?_
              refine pE_iconst (v := nI 0) dX11_team_28 rfl ?_
              refine pE_istore (lc' := [_, _, _, _, _, some (.int _), _]) dX11_team_29 (Nat.le_of_ble_eq_true rfl) rfl rfl ?_
              exact L_X11_team ht hH hr hS hrT (by omega) (by omega) (h1 s (by omega) rfl w (by omega) rfl) (2 ^ H 1 + 1) 0 _ (Nat.lt_succ_of_le (Nat.sub_le _ _)) (Nat.zero_le _)
            · have g17 := nq_nle (by omega) (by omega) h17
              refine pE_iconst (v := -1) dX11_team_20 rfl ?_
              refine pE_iret dX11_team_21 rfl rfl ?_
              first | exact h0 (Or.inl (fun s hs e => by have := nq_eq (by omega) (by omega) e; omega)) | exact h0 (Or.inr (fun s hs e => by have := nq_eq (by omega) (by omega) e; omega))
set_option maxHeartbeats 4000000 in
set_option maxRecDepth 100000 in
theorem L_X12_teamIn {l : Launch} {X : pX} {t g : Nat} {I : pHI} {J : pHJ} {Q : pQ} {s w k : Nat} {x3 : Int32} {H T : pN} (hH : mH H I) (hr : rH H) (hrT : rS 999 H T) (hS : mS 90 T I) (hk : k < 256) (hq : pE l X mX12_team 1 pK 86 [some (.ref 67), some (.int (nI s)), some (.int (nI w)), some (.int x3), some (.int (nI k)), some (.int (nI (sumB T k (H 1)))), some (.int (nI (H 1)))] [] pK I J (pR t g) Q) : ∀ (n j : Nat), H 1 - j < n → j ≤ H 1 → pE l X mX12_team 1 pK 44 [some (.ref 67), some (.int (nI s)), some (.int (nI w)), some (.int x3), some (.int (nI k)), some (.int (nI (sumB T k j))), some (.int (nI j))] [] pK I J (pR t g) Q := by
  intro n
  induction n with
  | zero => intro j hn hj; exact absurd hn (Nat.not_lt_zero _)
  | succ n ih =>
    intro j hn hj
    have hn8 := hr.2.1
    have hbl := bitN_le k j
    refine pE_iload dX12_team_44 rfl ?_
    refine pE_aload_n dX12_team_46 rfl rfl ?_
    refine pE_getI dX12_team_47 flX12_350 rfl (Or.inl rfl) (by first | assumption | rfl) ?_
    rw [hH.2.1]
    refine pE_icmp_ge (tgt := 86) dX12_team_50 (by decide) (fun h50 => ?_) (fun h50 => ?_)
    · have g50 := nq_le (by omega) (by omega) h50
      obtain rfl : j = H 1 := by omega
      exact hq
    · have g50 := nq_nle (by omega) (by omega) h50
      refine pE_iload dX12_team_53 rfl ?_
      refine pE_iload dX12_team_55 rfl ?_
      refine pE_iload dX12_team_57 rfl ?_
      refine pE_ishr dX12_team_59 ?_
      refine pE_iconst (v := nI 1) dX12_team_60 rfl ?_
      refine pE_iand dX12_team_61 ?_
      rw [sh_bit hk (by omega)]
      refine pE_iconst (v := nI 1) dX12_team_62 rfl ?_
      refine pE_icmp_ne (tgt := 76) dX12_team_63 (by decide) (fun h63 => ?_) (fun h63 => ?_)
      · have g63 := nq_ne (by omega) (by omega) h63
        refine pE_iconst (v := nI 0) dX12_team_76 rfl ?_
        refine pE_iaddN dX12_team_77 ?_
        refine pE_istore (lc' := [_, _, _, _, _, some (.int _), _]) dX12_team_78 (Nat.le_of_ble_eq_true rfl) rfl rfl ?_
        refine pE_iincN (c0 := 1) (lc' := [_, _, _, _, _, _, some (.int _)]) dX12_team_80 rfl rfl rfl rfl ?_
        refine pE_goto (tgt := 44) dX12_team_83 (by decide) ?_
        refine pE_cg (ih (j + 1) (by omega) (by omega)) (by
            simp only [sumB]
            first | (rw [if_pos g63]; first | done | rfl) | (rw [if_neg g63]; first | done | rfl)) rfl rfl rfl rfl
      · have g63 := nq_eq (by omega) (by omega) h63
        refine pE_aload_n dX12_team_66 rfl rfl ?_
        refine pE_getR dX12_team_67 flX12_85 rfl (by first | assumption | rfl) (by first | assumption | rfl) ?_
        refine pE_iload dX12_team_70 rfl ?_
        refine pE_ialoadN dX12_team_72 (by first | assumption | rfl) (by first | assumption | omega) (by omega) ?_
        rw [hS j (by omega)]
        refine pE_goto (tgt := 77) dX12_team_73 (by decide) ?_
        refine pE_iaddN dX12_team_77 ?_
        refine pE_istore (lc' := [_, _, _, _, _, some (.int _), _]) dX12_team_78 (Nat.le_of_ble_eq_true rfl) rfl rfl ?_
        refine pE_iincN (c0 := 1) (lc' := [_, _, _, _, _, _, some (.int _)]) dX12_team_80 rfl rfl rfl rfl ?_
        refine pE_goto (tgt := 44) dX12_team_83 (by decide) ?_
        refine pE_cg (ih (j + 1) (by omega) (by omega)) (by
            simp only [sumB]
            first | (rw [if_pos g63]; first | done | rfl) | (rw [if_neg g63]; first | done | rfl)) rfl rfl rfl rfl
set_option maxHeartbeats 4000000 in
set_option maxRecDepth 100000 in
theorem L_X12_team {l : Launch} {X : pX} {t g : Nat} {I : pHI} {J : pHJ} {Q : pQ} {s w : Nat} {H T : pN} (hH : mH H I) (hr : rH H) (hrT : rS 999 H T) (hS : mS 90 T I) (hs : s ≤ 400) (hw : w ≤ 1) (hq : Q (some (.int (tmA (tmN (fun k => sumB T k (H 1)) s (2 ^ H 1)) w))) I J (pR t g)) : ∀ (n j : Nat) (v5 v6 : Option Value), 2 ^ H 1 - j < n → j ≤ 2 ^ H 1 → pE l X mX12_team 1 pK 27 [some (.ref 67), some (.int (nI s)), some (.int (nI w)), some (.int (oI (tmN (fun k => sumB T k (H 1)) s j))), some (.int (nI j)), v5, v6] [] pK I J (pR t g) Q := by
  intro n
  induction n with
  | zero => intro j v5 v6 hn hj; exact absurd hn (Nat.not_lt_zero _)
  | succ n ih =>
    intro j v5 v6 hn hj
    have hn8 := hr.2.1
    have hp2 := p2_le hn8
    have hsb : ∀ k, sumB T k (H 1) ≤ 320 := fun k => by
      have h1 := sumB_le (T := T) (B := 40) k (H 1) (fun j hj => (hrT.2.2.2.2 j (by omega)).1)
      omega
    have hpp := popN_le j 8
    have hsj := hsb j
    cases e : tmN (fun k => sumB T k (H 1)) s j with
    | none =>
      rw [show oI none = (-1 : Int32) from rfl]
      refine pE_iload dX12_team_27 rfl ?_
      refine pE_iconst (v := nI 1) dX12_team_29 rfl ?_
      refine pE_aload_n dX12_team_30 rfl rfl ?_
      refine pE_getI dX12_team_31 flX12_350 rfl (Or.inl rfl) (by first | assumption | rfl) ?_
      rw [hH.2.1]
      refine pE_ishl dX12_team_34 ?_
      rw [one_shl hn8]
      refine pE_icmp_ge (tgt := 117) dX12_team_35 (by decide) (fun h35 => ?_) (fun h35 => ?_)
      · have g35 := nq_le (by omega) (by omega) h35
        obtain rfl : j = 2 ^ H 1 := by omega
        rw [e] at hq
        refine pE_iload_n dX12_team_117 rfl rfl ?_
        refine pE_if_ge (tgt := 125) dX12_team_118 (by decide) (fun h118 => ?_) (fun h118 => ?_)
        · exact absurd h118 (by decide)
        · refine pE_iconst (v := -1) dX12_team_121 rfl ?_
          refine pE_goto (tgt := 137) dX12_team_122 (by decide) ?_
          refine pE_iret dX12_team_137 rfl rfl ?_
          first | exact hq | (have e0 : w = 0 := (by omega); subst e0; exact hq) | (have e0 : w = 1 := (by omega); subst e0; exact hq)
      · have g35 := nq_nle (by omega) (by omega) h35
        refine pE_iconst (v := nI 0) dX12_team_38 rfl ?_
        refine pE_istore (lc' := [_, _, _, _, _, some (.int _), _]) dX12_team_39 (Nat.le_of_ble_eq_true rfl) rfl rfl ?_
        refine pE_iconst (v := nI 0) dX12_team_41 rfl ?_
        refine pE_istore (lc' := [_, _, _, _, _, _, some (.int _)]) dX12_team_42 (Nat.le_of_ble_eq_true rfl) rfl rfl ?_
        refine L_X12_teamIn (k := j) hH hr hrT hS (by omega) ?_ (H 1 + 1) 0 (by omega) (by omega)
        refine pE_iload dX12_team_86 rfl ?_
        refine pE_iload_n dX12_team_88 rfl rfl ?_
        refine pE_icmp_lt (tgt := 111) dX12_team_89 (by decide) (fun h89 => ?_) (fun h89 => ?_)
        · have g89 := nq_lt (by omega) (by omega) h89
          refine pE_iincN (c0 := 1) (lc' := [_, _, _, _, some (.int _), _, _]) dX12_team_111 rfl rfl rfl rfl ?_
          refine pE_goto (tgt := 27) dX12_team_114 (by decide) ?_
          refine pE_cg (ih (j + 1) _ _ (by omega) (by omega)) (by
              first
              | (rw [tm_no1 (f := (fun k => sumB T k (H 1))) (show ¬ s ≤ sumB T j (H 1) by omega), e]; first | done | rfl)
              | (rw [tm_yes (f := (fun k => sumB T k (H 1))) (show s ≤ sumB T j (H 1) by omega) (by rw [e]; simp only [twF]; omega)]; first | done | rfl)
              | (rw [tm_no2 (f := (fun k => sumB T k (H 1))) (by rw [e]; simp only [twF]; omega), e]; first | done | rfl)) rfl rfl rfl rfl
        · have g89 := nq_nlt (by omega) (by omega) h89
          refine pE_iload_n dX12_team_92 rfl rfl ?_
          refine pE_if_lt (tgt := 108) dX12_team_93 (by decide) (fun h93 => ?_) (fun h93 => ?_)
          · refine pE_iload dX12_team_108 rfl ?_
            refine pE_istore_n (lc' := [_, _, _, some (.int _), _, _, _]) dX12_team_110 rfl (Nat.le_of_ble_eq_true rfl) rfl rfl ?_
            refine pE_iincN (c0 := 1) (lc' := [_, _, _, _, some (.int _), _, _]) dX12_team_111 rfl rfl rfl rfl ?_
            refine pE_goto (tgt := 27) dX12_team_114 (by decide) ?_
            refine pE_cg (ih (j + 1) _ _ (by omega) (by omega)) (by
                first
                | (rw [tm_no1 (f := (fun k => sumB T k (H 1))) (show ¬ s ≤ sumB T j (H 1) by omega), e]; first | done | rfl)
                | (rw [tm_yes (f := (fun k => sumB T k (H 1))) (show s ≤ sumB T j (H 1) by omega) (by rw [e]; simp only [twF]; omega)]; first | done | rfl)
                | (rw [tm_no2 (f := (fun k => sumB T k (H 1))) (by rw [e]; simp only [twF]; omega), e]; first | done | rfl)) rfl rfl rfl rfl
          · exact absurd m1_lt0 h93
    | some b =>
      have hpb := popN_le b 8
      have hbj := tmN_lt e
      rw [show oI (some b) = nI b from rfl]
      refine pE_iload dX12_team_27 rfl ?_
      refine pE_iconst (v := nI 1) dX12_team_29 rfl ?_
      refine pE_aload_n dX12_team_30 rfl rfl ?_
      refine pE_getI dX12_team_31 flX12_350 rfl (Or.inl rfl) (by first | assumption | rfl) ?_
      rw [hH.2.1]
      refine pE_ishl dX12_team_34 ?_
      rw [one_shl hn8]
      refine pE_icmp_ge (tgt := 117) dX12_team_35 (by decide) (fun h35 => ?_) (fun h35 => ?_)
      · have g35 := nq_le (by omega) (by omega) h35
        obtain rfl : j = 2 ^ H 1 := by omega
        rw [e] at hq
        refine pE_iload_n dX12_team_117 rfl rfl ?_
        refine pE_if_ge (tgt := 125) dX12_team_118 (by decide) (fun h118 => ?_) (fun h118 => ?_)
        · refine pE_iload_n dX12_team_125 rfl rfl ?_
          refine pE_if_ne (tgt := 136) dX12_team_126 (by decide) (fun h126 => ?_) (fun h126 => ?_)
          · have g126 := nq_ne0 (by omega) h126
            refine pE_iload_n dX12_team_136 rfl rfl ?_
            refine pE_iret dX12_team_137 rfl rfl ?_
            first | exact hq | (have e0 : w = 0 := (by omega); subst e0; exact hq) | (have e0 : w = 1 := (by omega); subst e0; exact hq)
          · have g126 := nq_eq0 (by omega) h126
            refine pE_iload_n dX12_team_129 rfl rfl ?_
            refine pE_callS (d' := 0) (as := [_]) dX12_team_130 lkX12_479 (cwX12_members _ _) svX12_members rfl rfl (Nat.le_of_ble_eq_true rfl) (by decide) pKK ?_
            refine M_X12_members (by omega) ?_
            refine pE_goto (tgt := 137) dX12_team_133 (by decide) ?_
            refine pE_iret dX12_team_137 rfl rfl ?_
            first | exact hq | (have e0 : w = 0 := (by omega); subst e0; exact hq) | (have e0 : w = 1 := (by omega); subst e0; exact hq)
        · exact absurd h118 (not_not_intro (nI_pos' (by omega)))
      · have g35 := nq_nle (by omega) (by omega) h35
        refine pE_iconst (v := nI 0) dX12_team_38 rfl ?_
        refine pE_istore (lc' := [_, _, _, _, _, some (.int _), _]) dX12_team_39 (Nat.le_of_ble_eq_true rfl) rfl rfl ?_
        refine pE_iconst (v := nI 0) dX12_team_41 rfl ?_
        refine pE_istore (lc' := [_, _, _, _, _, _, some (.int _)]) dX12_team_42 (Nat.le_of_ble_eq_true rfl) rfl rfl ?_
        refine L_X12_teamIn (k := j) hH hr hrT hS (by omega) ?_ (H 1 + 1) 0 (by omega) (by omega)
        refine pE_iload dX12_team_86 rfl ?_
        refine pE_iload_n dX12_team_88 rfl rfl ?_
        refine pE_icmp_lt (tgt := 111) dX12_team_89 (by decide) (fun h89 => ?_) (fun h89 => ?_)
        · have g89 := nq_lt (by omega) (by omega) h89
          refine pE_iincN (c0 := 1) (lc' := [_, _, _, _, some (.int _), _, _]) dX12_team_111 rfl rfl rfl rfl ?_
          refine pE_goto (tgt := 27) dX12_team_114 (by decide) ?_
          refine pE_cg (ih (j + 1) _ _ (by omega) (by omega)) (by
              first
              | (rw [tm_no1 (f := (fun k => sumB T k (H 1))) (show ¬ s ≤ sumB T j (H 1) by omega), e]; first | done | rfl)
              | (rw [tm_yes (f := (fun k => sumB T k (H 1))) (show s ≤ sumB T j (H 1) by omega) (by rw [e]; simp only [twF]; omega)]; first | done | rfl)
              | (rw [tm_no2 (f := (fun k => sumB T k (H 1))) (by rw [e]; simp only [twF]; omega), e]; first | done | rfl)) rfl rfl rfl rfl
        · have g89 := nq_nlt (by omega) (by omega) h89
          refine pE_iload_n dX12_team_92 rfl rfl ?_
          refine pE_if_lt (tgt := 108) dX12_team_93 (by decide) (fun h93 => ?_) (fun h93 => ?_)
          · exact absurd h93 (nI_pos (by omega))
          · refine pE_iload dX12_team_96 rfl ?_
            refine pE_callS (d' := 0) (as := [_]) dX12_team_98 lkX12_479 (cwX12_members _ _) svX12_members rfl rfl (Nat.le_of_ble_eq_true rfl) (by decide) pKK ?_
            refine M_X12_members (by omega) ?_
            refine pE_iload_n dX12_team_101 rfl rfl ?_
            refine pE_callS (d' := 0) (as := [_]) dX12_team_102 lkX12_479 (cwX12_members _ _) svX12_members rfl rfl (Nat.le_of_ble_eq_true rfl) (by decide) pKK ?_
            refine M_X12_members (by omega) ?_
            refine pE_icmp_ge (tgt := 111) dX12_team_105 (by decide) (fun h105 => ?_) (fun h105 => ?_)
            · have g105 := nq_le (by omega) (by omega) h105
              refine pE_iincN (c0 := 1) (lc' := [_, _, _, _, some (.int _), _, _]) dX12_team_111 rfl rfl rfl rfl ?_
              refine pE_goto (tgt := 27) dX12_team_114 (by decide) ?_
              refine pE_cg (ih (j + 1) _ _ (by omega) (by omega)) (by
                  first
                  | (rw [tm_no1 (f := (fun k => sumB T k (H 1))) (show ¬ s ≤ sumB T j (H 1) by omega), e]; first | done | rfl)
                  | (rw [tm_yes (f := (fun k => sumB T k (H 1))) (show s ≤ sumB T j (H 1) by omega) (by rw [e]; simp only [twF]; omega)]; first | done | rfl)
                  | (rw [tm_no2 (f := (fun k => sumB T k (H 1))) (by rw [e]; simp only [twF]; omega), e]; first | done | rfl)) rfl rfl rfl rfl
            · have g105 := nq_nle (by omega) (by omega) h105
              refine pE_iload dX12_team_108 rfl ?_
              refine pE_istore_n (lc' := [_, _, _, some (.int _), _, _, _]) dX12_team_110 rfl (Nat.le_of_ble_eq_true rfl) rfl rfl ?_
              refine pE_iincN (c0 := 1) (lc' := [_, _, _, _, some (.int _), _, _]) dX12_team_111 rfl rfl rfl rfl ?_
              refine pE_goto (tgt := 27) dX12_team_114 (by decide) ?_
              refine pE_cg (ih (j + 1) _ _ (by omega) (by omega)) (by
                  first
                  | (rw [tm_no1 (f := (fun k => sumB T k (H 1))) (show ¬ s ≤ sumB T j (H 1) by omega), e]; first | done | rfl)
                  | (rw [tm_yes (f := (fun k => sumB T k (H 1))) (show s ≤ sumB T j (H 1) by omega) (by rw [e]; simp only [twF]; omega)]; first | done | rfl)
                  | (rw [tm_no2 (f := (fun k => sumB T k (H 1))) (by rw [e]; simp only [twF]; omega), e]; first | done | rfl)) rfl rfl rfl rfl
set_option maxHeartbeats 4000000 in
set_option maxRecDepth 100000 in
theorem M_X12_team {l : Launch} {X : pX} {t g : Nat} {I : pHI} {J : pHJ} {Q : pQ} {x y : Int32} {H T : pN} (hH : mH H I) (hr : rH H) (hrT : rS 999 H T) (hS : mS 90 T I) (h1 : ∀ s, s ≤ 400 → x = nI s → ∀ w, w ≤ 1 → y = nI w → Q (some (.int (tmA (tmN (fun k => sumB T k (H 1)) s (2 ^ H 1)) w))) I J (pR t g)) (h0 : ((∀ s, s ≤ 400 → x ≠ nI s) ∨ (∀ w, w ≤ 1 → y ≠ nI w)) → Q (some (.int (-1))) I J (pR t g)) : pM l X yX12_team mX12_team 1 [.ref 67, .int x, .int y] pK pK I J (pR t g) Q := by
  refine pM_of rfl (fun h => by cases h) rfl pKM (Nat.le_of_ble_eq_true rfl) ?_
  refine pE_iload_n dX12_team_0 rfl rfl ?_
  refine pE_iconst (v := nI 0) dX12_team_1 rfl ?_
  refine pE_sipush (v := nI 400) dX12_team_2 rfl ?_
  refine pE_callS (d' := 0) (as := [_, _, _]) dX12_team_5 lkX12_368 (cwX12_isIn _ _) svX12_isIn rfl rfl (Nat.le_of_ble_eq_true rfl) (by decide) pKK ?_
  refine M_X12_isIn  (fun k1 k2 => ?_) (fun k => ?_)
  · obtain ⟨s, rfl, -, hs⟩ := in_rng (by omega) (by omega) k1 k2
    refine pE_if_eq_f (tgt := 20) dX12_team_8 (by decide) nI_1n0 ?_
    refine pE_iload_n dX12_team_11 rfl rfl ?_
    refine pE_iconst (v := nI 0) dX12_team_12 rfl ?_
    refine pE_iconst (v := nI 1) dX12_team_13 rfl ?_
    refine pE_callS (d' := 0) (as := [_, _, _]) dX12_team_14 lkX12_368 (cwX12_isIn _ _) svX12_isIn rfl rfl (Nat.le_of_ble_eq_true rfl) (by decide) pKK ?_
    refine M_X12_isIn  (fun k1 k2 => ?_) (fun k => ?_)
    · obtain ⟨w, rfl, -, hw⟩ := in_rng (by omega) (by omega) k1 k2
      refine pE_if_ne_t (tgt := 22) dX12_team_17 (by decide) nI_1n0 ?_
      refine pE_iconst (v := -1) dX12_team_22 rfl ?_
      refine pE_istore_n (lc' := [_, _, _, some (.int _), _, _, _]) dX12_team_23 rfl (Nat.le_of_ble_eq_true rfl) rfl rfl ?_
      refine pE_iconst (v := nI 0) dX12_team_24 rfl ?_
      refine pE_istore (lc' := [_, _, _, _, some (.int _), _, _]) dX12_team_25 (Nat.le_of_ble_eq_true rfl) rfl rfl ?_
      exact L_X12_team hH hr hrT hS hs hw (h1 s hs rfl w hw rfl) (2 ^ H 1 + 1) 0 _ _ (Nat.lt_succ_of_le (Nat.sub_le _ _)) (Nat.zero_le _)
    · have hno := out_rng (by omega) (by omega) k
      refine pE_if_ne_f (tgt := 22) dX12_team_17 (by decide) nI_0 ?_
      refine pE_iconst (v := -1) dX12_team_20 rfl ?_
      refine pE_iret dX12_team_21 rfl rfl ?_
      first | exact h0 (Or.inl (fun s hs => hno s (Nat.zero_le _) hs)) | exact h0 (Or.inr (fun s hs => hno s (Nat.zero_le _) hs))
  · have hno := out_rng (by omega) (by omega) k
    refine pE_if_eq_t (tgt := 20) dX12_team_8 (by decide) nI_0 ?_
    refine pE_iconst (v := -1) dX12_team_20 rfl ?_
    refine pE_iret dX12_team_21 rfl rfl ?_
    first | exact h0 (Or.inl (fun s hs => hno s (Nat.zero_le _) hs)) | exact h0 (Or.inr (fun s hs => hno s (Nat.zero_le _) hs))
set_option maxHeartbeats 4000000 in
set_option maxRecDepth 100000 in
theorem L_X11_ways {l : Launch} {X : pX} {t g : Nat} {I : pHI} {J : pHJ} {Q : pQ} {n0 k : Nat} (hn0 : n0 ≤ 4) (hk : k ≤ n0) (hq : Q (some (.int (nI (wayN n0 k)))) I J (pR t g)) : ∀ (n j : Nat), k - j < n → j ≤ k → pE l X mX11_ways 0 pK 4 [some (.int (nI n0)), some (.int (nI k)), some (.int (nI (wayN n0 j))), some (.int (nI j))] [] pK I J (pR t g) Q := by
  intro n
  induction n with
  | zero => intro j hn hj; exact absurd hn (Nat.not_lt_zero _)
  | succ n ih =>
    intro j hn hj
    have hwl : j ≤ 4 → wayN n0 j * (n0 - j) ≤ 24 * 4 := fun h => Nat.mul_le_mul (wayN_le hn0 h) (by omega)
    have hwl2 := hwl (by omega)
    refine pE_iload_n dX11_ways_4 rfl rfl ?_
    refine pE_iload_n dX11_ways_5 rfl rfl ?_
    refine pE_icmp_ge (tgt := 25) dX11_ways_6 (by decide) (fun h6 => ?_) (fun h6 => ?_)
    · have g6 := nq_le (by omega) (by omega) h6
      refine pE_iload_n dX11_ways_25 rfl rfl ?_
      refine pE_iret dX11_ways_26 rfl rfl ?_
      obtain rfl : j = k := by omega
      exact hq
    · have g6 := nq_nle (by omega) (by omega) h6
      refine pE_iload_n dX11_ways_9 rfl rfl ?_
      refine pE_iload_n dX11_ways_10 rfl rfl ?_
      refine pE_iload_n dX11_ways_11 rfl rfl ?_
      refine pE_isubN dX11_ways_12 (by omega) ?_
      refine pE_imulN dX11_ways_13 ?_
      refine pE_iload_n dX11_ways_14 rfl rfl ?_
      refine pE_iconst (v := nI 1) dX11_ways_15 rfl ?_
      refine pE_iaddN dX11_ways_16 ?_
      refine pE_idivN dX11_ways_17 (by omega) (by omega) (by omega) ?_
      refine pE_istore_n (lc' := [_, _, some (.int _), _]) dX11_ways_18 rfl (Nat.le_of_ble_eq_true rfl) rfl rfl ?_
      refine pE_iincN (c0 := 1) (lc' := [_, _, _, some (.int _)]) dX11_ways_19 rfl rfl rfl rfl ?_
      refine pE_goto (tgt := 4) dX11_ways_22 (by decide) ?_
      exact ih (j + 1) (by omega) (by omega)
set_option maxHeartbeats 4000000 in
set_option maxRecDepth 100000 in
theorem M_X11_ways {l : Launch} {X : pX} {t g : Nat} {I : pHI} {J : pHJ} {Q : pQ} {n0 k : Nat} (hn0 : n0 ≤ 4) (hk : k ≤ n0) (hq : Q (some (.int (nI (wayN n0 k)))) I J (pR t g)) : pM l X yX11_ways mX11_ways 0 [.int (nI n0), .int (nI k)] pK pK I J (pR t g) Q := by
  refine pM_of rfl (fun h => by cases h) rfl pKM (Nat.le_of_ble_eq_true rfl) ?_
  refine pE_iconst (v := nI 1) dX11_ways_0 rfl ?_
  refine pE_istore_n (lc' := [_, _, some (.int _), _]) dX11_ways_1 rfl (Nat.le_of_ble_eq_true rfl) rfl rfl ?_
  refine pE_iconst (v := nI 0) dX11_ways_2 rfl ?_
  refine pE_istore_n (lc' := [_, _, _, some (.int _)]) dX11_ways_3 rfl (Nat.le_of_ble_eq_true rfl) rfl rfl ?_
  exact L_X11_ways hn0 hk hq (k + 1) 0 (by omega) (by omega)
set_option maxHeartbeats 4000000 in
set_option maxRecDepth 100000 in
theorem L_X11_power {l : Launch} {X : pX} {t g : Nat} {I : pHI} {J : pHJ} {Q : pQ} {b k : Nat} (hk : k ≤ 1000) (hq : Q (some (.int (nI (b ^ k)))) I J (pR t g)) : ∀ (n j : Nat), k - j < n → j ≤ k → pE l X mX11_power 0 pK 4 [some (.int (nI b)), some (.int (nI k)), some (.int (nI (b ^ j))), some (.int (nI j))] [] pK I J (pR t g) Q := by
  intro n
  induction n with
  | zero => intro j hn hj; exact absurd hn (Nat.not_lt_zero _)
  | succ n ih =>
    intro j hn hj
    refine pE_iload_n dX11_power_4 rfl rfl ?_
    refine pE_iload_n dX11_power_5 rfl rfl ?_
    refine pE_icmp_ge (tgt := 19) dX11_power_6 (by decide) (fun h6 => ?_) (fun h6 => ?_)
    · have g6 := nq_le (by omega) (by omega) h6
      refine pE_iload_n dX11_power_19 rfl rfl ?_
      refine pE_iret dX11_power_20 rfl rfl ?_
      obtain rfl : j = k := by omega
      exact hq
    · have g6 := nq_nle (by omega) (by omega) h6
      refine pE_iload_n dX11_power_9 rfl rfl ?_
      refine pE_iload_n dX11_power_10 rfl rfl ?_
      refine pE_imulN dX11_power_11 ?_
      refine pE_istore_n (lc' := [_, _, some (.int _), _]) dX11_power_12 rfl (Nat.le_of_ble_eq_true rfl) rfl rfl ?_
      refine pE_iincN (c0 := 1) (lc' := [_, _, _, some (.int _)]) dX11_power_13 rfl rfl rfl rfl ?_
      refine pE_goto (tgt := 4) dX11_power_16 (by decide) ?_
      exact ih (j + 1) (by omega) (by omega)
set_option maxHeartbeats 4000000 in
set_option maxRecDepth 100000 in
theorem M_X11_power {l : Launch} {X : pX} {t g : Nat} {I : pHI} {J : pHJ} {Q : pQ} {b k : Nat} (hk : k ≤ 1000) (hq : Q (some (.int (nI (b ^ k)))) I J (pR t g)) : pM l X yX11_power mX11_power 0 [.int (nI b), .int (nI k)] pK pK I J (pR t g) Q := by
  refine pM_of rfl (fun h => by cases h) rfl pKM (Nat.le_of_ble_eq_true rfl) ?_
  refine pE_iconst (v := nI 1) dX11_power_0 rfl ?_
  refine pE_istore_n (lc' := [_, _, some (.int _), _]) dX11_power_1 rfl (Nat.le_of_ble_eq_true rfl) rfl rfl ?_
  refine pE_iconst (v := nI 0) dX11_power_2 rfl ?_
  refine pE_istore_n (lc' := [_, _, _, some (.int _)]) dX11_power_3 rfl (Nat.le_of_ble_eq_true rfl) rfl rfl ?_
  exact L_X11_power hk hq (k + 1) 0 (by omega) (by omega)
set_option maxHeartbeats 4000000 in
set_option maxRecDepth 100000 in
theorem L_X12_power {l : Launch} {X : pX} {t g : Nat} {I : pHI} {J : pHJ} {Q : pQ} {b k : Nat} (hk : k ≤ 1000) (hq : Q (some (.int (nI (b ^ k)))) I J (pR t g)) : ∀ (n j : Nat), k - j < n → j ≤ k → pE l X mX12_power 0 pK 4 [some (.int (nI b)), some (.int (nI k)), some (.int (nI (b ^ j))), some (.int (nI j))] [] pK I J (pR t g) Q := by
  intro n
  induction n with
  | zero => intro j hn hj; exact absurd hn (Nat.not_lt_zero _)
  | succ n ih =>
    intro j hn hj
    refine pE_iload_n dX12_power_4 rfl rfl ?_
    refine pE_iload_n dX12_power_5 rfl rfl ?_
    refine pE_icmp_ge (tgt := 19) dX12_power_6 (by decide) (fun h6 => ?_) (fun h6 => ?_)
    · have g6 := nq_le (by omega) (by omega) h6
      refine pE_iload_n dX12_power_19 rfl rfl ?_
      refine pE_iret dX12_power_20 rfl rfl ?_
      obtain rfl : j = k := by omega
      exact hq
    · have g6 := nq_nle (by omega) (by omega) h6
      refine pE_iload_n dX12_power_9 rfl rfl ?_
      refine pE_iload_n dX12_power_10 rfl rfl ?_
      refine pE_imulN dX12_power_11 ?_
      refine pE_istore_n (lc' := [_, _, some (.int _), _]) dX12_power_12 rfl (Nat.le_of_ble_eq_true rfl) rfl rfl ?_
      refine pE_iincN (c0 := 1) (lc' := [_, _, _, some (.int _)]) dX12_power_13 rfl rfl rfl rfl ?_
      refine pE_goto (tgt := 4) dX12_power_16 (by decide) ?_
      exact ih (j + 1) (by omega) (by omega)
set_option maxHeartbeats 4000000 in
set_option maxRecDepth 100000 in
theorem M_X12_power {l : Launch} {X : pX} {t g : Nat} {I : pHI} {J : pHJ} {Q : pQ} {b k : Nat} (hk : k ≤ 1000) (hq : Q (some (.int (nI (b ^ k)))) I J (pR t g)) : pM l X yX12_power mX12_power 0 [.int (nI b), .int (nI k)] pK pK I J (pR t g) Q := by
  refine pM_of rfl (fun h => by cases h) rfl pKM (Nat.le_of_ble_eq_true rfl) ?_
  refine pE_iconst (v := nI 1) dX12_power_0 rfl ?_
  refine pE_istore_n (lc' := [_, _, some (.int _), _]) dX12_power_1 rfl (Nat.le_of_ble_eq_true rfl) rfl rfl ?_
  refine pE_iconst (v := nI 0) dX12_power_2 rfl ?_
  refine pE_istore_n (lc' := [_, _, _, some (.int _)]) dX12_power_3 rfl (Nat.le_of_ble_eq_true rfl) rfl rfl ?_
  exact L_X12_power hk hq (k + 1) 0 (by omega) (by omega)
set_option maxHeartbeats 4000000 in
set_option maxRecDepth 100000 in
theorem L_X11_commonDivisor {l : Launch} {X : pX} {t g : Nat} {I : pHI} {J : pHJ} {Q : pQ} {a b : Nat} (hq : Q (some (.int (nI (Nat.gcd a b)))) I J (pR t g)) : ∀ (n s x y : Nat) (v0 : Option Value) (y1 : Int32) (v5 : Option Value), 100 - s < n → s ≤ 100 → x < 2 ^ 31 → y < 2 ^ 31 → Nat.gcd x y = Nat.gcd a b → (s = 0 ∧ x * y < 2 ^ 99) ∨ (1 ≤ s ∧ y < x ∧ x * y < 2 ^ (100 - s)) → pE l X mX11_commonDivisor 0 pK 7 [v0, some (.int y1), some (.int (nI x)), some (.int (nI y)), some (.int (nI s)), v5] [] pK I J (pR t g) Q := by
  intro n
  induction n with
  | zero => intro s x y v0 y1 v5 hn; exact absurd hn (Nat.not_lt_zero _)
  | succ n ih =>
    intro s x y v0 y1 v5 hn hs hx hy hg hv
    refine pE_iload dX11_commonDivisor_7 rfl ?_
    refine pE_bipush (v := nI 100) dX11_commonDivisor_9 rfl ?_
    refine pE_icmp_ge (tgt := 34) dX11_commonDivisor_11 (by decide) (fun h11 => ?_) (fun h11 => ?_)
    · have g11 := nq_le (by omega) (by omega) h11
      obtain rfl : s = 100 := by omega
      obtain rfl : y = 0 := by
        rcases hv with hv | hv
        · omega
        · have h9 : 1 * y ≤ x * y := Nat.mul_le_mul_right y (by omega)
          have := hv.2.2
          omega
      rw [Nat.gcd_zero_right] at hg
      refine pE_iload_n dX11_commonDivisor_34 rfl rfl ?_
      refine pE_iret dX11_commonDivisor_35 rfl rfl ?_
      rw [hg]; exact hq
    · have g11 := nq_nle (by omega) (by omega) h11
      refine pE_iload_n dX11_commonDivisor_14 rfl rfl ?_
      refine pE_if_eq (tgt := 34) dX11_commonDivisor_15 (by decide) (fun h15 => ?_) (fun h15 => ?_)
      · have g15 := nq_eq0 (by omega) h15
        subst g15
        rw [Nat.gcd_zero_right] at hg
        refine pE_iload_n dX11_commonDivisor_34 rfl rfl ?_
        refine pE_iret dX11_commonDivisor_35 rfl rfl ?_
        rw [hg]; exact hq
      · have g15 := nq_ne0 (by omega) h15
        have hml := Nat.mod_lt x g15
        have hmx := Nat.mod_le x y
        refine pE_iload_n dX11_commonDivisor_18 rfl rfl ?_
        refine pE_iload_n dX11_commonDivisor_19 rfl rfl ?_
        refine pE_iremN dX11_commonDivisor_20 (by omega) (by omega) (by omega) ?_
        refine pE_istore (lc' := [_, _, _, _, _, some (.int _)]) dX11_commonDivisor_21 (Nat.le_of_ble_eq_true rfl) rfl rfl ?_
        refine pE_iload_n dX11_commonDivisor_23 rfl rfl ?_
        refine pE_istore_n (lc' := [_, _, some (.int _), _, _, _]) dX11_commonDivisor_24 rfl (Nat.le_of_ble_eq_true rfl) rfl rfl ?_
        refine pE_iload dX11_commonDivisor_25 rfl ?_
        refine pE_istore_n (lc' := [_, _, _, some (.int _), _, _]) dX11_commonDivisor_27 rfl (Nat.le_of_ble_eq_true rfl) rfl rfl ?_
        refine pE_iincN (c0 := 1) (lc' := [_, _, _, _, some (.int _), _]) dX11_commonDivisor_28 rfl rfl rfl rfl ?_
        refine pE_goto (tgt := 7) dX11_commonDivisor_31 (by decide) ?_
        refine ih (s + 1) y (x % y) _ _ _ (by omega) (by omega) hy (by omega) (by rw [← gcd_st]; exact hg) (Or.inr ⟨by omega, hml, ?_⟩)
        rcases hv with ⟨rfl, hv⟩ | ⟨h1, h2, h3⟩
        · have h9 : y * (x % y) ≤ y * x := Nat.mul_le_mul_left y hmx
          rw [Nat.mul_comm y x] at h9
          exact Nat.lt_of_le_of_lt h9 hv
        · exact half_st h2 g15 (by omega) h3
set_option maxHeartbeats 4000000 in
set_option maxRecDepth 100000 in
theorem M_X11_commonDivisor {l : Launch} {X : pX} {t g : Nat} {I : pHI} {J : pHJ} {Q : pQ} {a b : Nat} (ha : a ≤ 100000000) (hb : b ≤ 100000000) (hq : Q (some (.int (nI (Nat.gcd a b)))) I J (pR t g)) : pM l X yX11_commonDivisor mX11_commonDivisor 0 [.int (nI a), .int (nI b)] pK pK I J (pR t g) Q := by
  refine pM_of rfl (fun h => by cases h) rfl pKM (Nat.le_of_ble_eq_true rfl) ?_
  refine pE_iload_n dX11_commonDivisor_0 rfl rfl ?_
  refine pE_istore_n (lc' := [_, _, some (.int _), _, _, _]) dX11_commonDivisor_1 rfl (Nat.le_of_ble_eq_true rfl) rfl rfl ?_
  refine pE_iload_n dX11_commonDivisor_2 rfl rfl ?_
  refine pE_istore_n (lc' := [_, _, _, some (.int _), _, _]) dX11_commonDivisor_3 rfl (Nat.le_of_ble_eq_true rfl) rfl rfl ?_
  refine pE_iconst (v := nI 0) dX11_commonDivisor_4 rfl ?_
  refine pE_istore (lc' := [_, _, _, _, some (.int _), _]) dX11_commonDivisor_5 (Nat.le_of_ble_eq_true rfl) rfl rfl ?_
  exact L_X11_commonDivisor hq 101 0 a b _ _ _ (by omega) (by omega) (by omega) (by omega) rfl (Or.inl ⟨rfl, Nat.lt_of_le_of_lt (Nat.mul_le_mul ha hb) (by decide)⟩)
set_option maxHeartbeats 4000000 in
set_option maxRecDepth 100000 in
theorem L_X12_divisor {l : Launch} {X : pX} {t g : Nat} {I : pHI} {J : pHJ} {Q : pQ} {a b : Nat} (hq : Q (some (.int (nI (Nat.gcd a b)))) I J (pR t g)) : ∀ (n x y : Nat) (v0 : Option Value) (y1 : Int32) (v4 : Option Value), y < n → x < 2 ^ 31 → y < 2 ^ 31 → Nat.gcd x y = Nat.gcd a b → pE l X mX12_divisor 0 pK 4 [v0, some (.int y1), some (.int (nI x)), some (.int (nI y)), v4] [] pK I J (pR t g) Q := by
  intro n
  induction n with
  | zero => intro x y v0 y1 v4 hn; exact absurd hn (Nat.not_lt_zero _)
  | succ n ih =>
    intro x y v0 y1 v4 hn hx hy hg
    refine pE_iload_n dX12_divisor_4 rfl rfl ?_
    refine pE_if_le (tgt := 21) dX12_divisor_5 (by decide) (fun h5 => ?_) (fun h5 => ?_)
    · have g5 := nq_le0 (by omega) h5
      subst g5
      rw [Nat.gcd_zero_right] at hg
      refine pE_iload_n dX12_divisor_21 rfl rfl ?_
      refine pE_iret dX12_divisor_22 rfl rfl ?_
      rw [hg]; exact hq
    · have g5 := nq_nle0 (by omega) h5
      have hml := Nat.mod_lt x g5
      refine pE_iload_n dX12_divisor_8 rfl rfl ?_
      refine pE_iload_n dX12_divisor_9 rfl rfl ?_
      refine pE_iremN dX12_divisor_10 (by omega) (by omega) (by omega) ?_
      refine pE_istore (lc' := [_, _, _, _, some (.int _)]) dX12_divisor_11 (Nat.le_of_ble_eq_true rfl) rfl rfl ?_
      refine pE_iload_n dX12_divisor_13 rfl rfl ?_
      refine pE_istore_n (lc' := [_, _, some (.int _), _, _]) dX12_divisor_14 rfl (Nat.le_of_ble_eq_true rfl) rfl rfl ?_
      refine pE_iload dX12_divisor_15 rfl ?_
      refine pE_istore_n (lc' := [_, _, _, some (.int _), _]) dX12_divisor_17 rfl (Nat.le_of_ble_eq_true rfl) rfl rfl ?_
      refine pE_goto (tgt := 4) dX12_divisor_18 (by decide) ?_
      exact ih y (x % y) _ _ _ (by omega) hy (by omega) (by rw [← gcd_st]; exact hg)
set_option maxHeartbeats 4000000 in
set_option maxRecDepth 100000 in
theorem M_X12_divisor {l : Launch} {X : pX} {t g : Nat} {I : pHI} {J : pHJ} {Q : pQ} {a b : Nat} (ha : a ≤ 100000000) (hb : b ≤ 100000000) (hq : Q (some (.int (nI (Nat.gcd a b)))) I J (pR t g)) : pM l X yX12_divisor mX12_divisor 0 [.int (nI a), .int (nI b)] pK pK I J (pR t g) Q := by
  refine pM_of rfl (fun h => by cases h) rfl pKM (Nat.le_of_ble_eq_true rfl) ?_
  refine pE_iload_n dX12_divisor_0 rfl rfl ?_
  refine pE_istore_n (lc' := [_, _, some (.int _), _, _]) dX12_divisor_1 rfl (Nat.le_of_ble_eq_true rfl) rfl rfl ?_
  refine pE_iload_n dX12_divisor_2 rfl rfl ?_
  refine pE_istore_n (lc' := [_, _, _, some (.int _), _]) dX12_divisor_3 rfl (Nat.le_of_ble_eq_true rfl) rfl rfl ?_
  exact L_X12_divisor hq (b + 1) a b _ _ _ (by omega) (by omega) (by omega) rfl
set_option maxHeartbeats 4000000 in
set_option maxRecDepth 100000 in
theorem L_X11_odds {l : Launch} {X : pX} {t g : Nat} {I : pHI} {J : pHJ} {Q : pQ} {a n0 m w : Nat} {H : pN} {v8 : Option Value} (hf : H (40 + a) ≤ 100) (hn4 : n0 ≤ 4) (hm : m ≤ n0) (hw : w ≤ 1) (hq : Q (some (.int (if w = 0 then nI (odS (H (40 + a)) n0 m (n0 + 1 - m) / Nat.gcd (odS (H (40 + a)) n0 m (n0 + 1 - m)) (100 ^ n0)) else nI (100 ^ n0 / Nat.gcd (odS (H (40 + a)) n0 m (n0 + 1 - m)) (100 ^ n0))))) I J (pR t g)) : ∀ (n j : Nat), n0 + 1 - m - j < n → j ≤ n0 + 1 - m → pE l X mX11_odds 1 pK 59 [some (.ref 0), some (.int (nI a)), some (.int (nI n0)), some (.int (nI m)), some (.int (nI w)), some (.int (nI (H (40 + a)))), some (.int (nI (odS (H (40 + a)) n0 m j))), some (.int (nI (m + j))), v8] [] pK I J (pR t g) Q := by
  intro n
  induction n with
  | zero => intro j hn hj; exact absurd hn (Nat.not_lt_zero _)
  | succ n ih =>
    intro j hn hj
    have hp4 : 1 ≤ 100 ^ n0 ∧ 100 ^ n0 ≤ 100000000 := by
      have : ∀ n, n ≤ 4 → 1 ≤ 100 ^ n ∧ 100 ^ n ≤ 100000000 := by decide
      exact this n0 hn4
    have hod := (od_eq hf hn4 hm).2
    refine pE_iload dX11_odds_59 rfl ?_
    refine pE_iload_n dX11_odds_61 rfl rfl ?_
    refine pE_icmp_gt (tgt := 103) dX11_odds_62 (by decide) (fun h62 => ?_) (fun h62 => ?_)
    · have g62 := nq_lt (by omega) (by omega) h62
      obtain rfl : j = n0 + 1 - m := by omega
      refine pE_bipush (v := nI 100) dX11_odds_103 rfl ?_
      refine pE_iload_n dX11_odds_105 rfl rfl ?_
      refine pE_callS (d' := 0) (as := [_, _]) dX11_odds_106 lkX11_223 (cwX11_power _ _) svX11_power rfl rfl (Nat.le_of_ble_eq_true rfl) (by decide) pKK ?_
      refine M_X11_power (by omega) ?_
      refine pE_istore (lc' := [_, _, _, _, _, _, _, some (.int _), _]) dX11_odds_109 (Nat.le_of_ble_eq_true rfl) rfl rfl ?_
      refine pE_iload dX11_odds_111 rfl ?_
      refine pE_iload dX11_odds_113 rfl ?_
      refine pE_callS (d' := 0) (as := [_, _]) dX11_odds_115 lkX11_226 (cwX11_commonDivisor _ _) svX11_commonDivisor rfl rfl (Nat.le_of_ble_eq_true rfl) (by decide) pKK ?_
      refine M_X11_commonDivisor hod hp4.2 ?_
      refine pE_istore (lc' := [_, _, _, _, _, _, _, _, some (.int _)]) dX11_odds_118 (Nat.le_of_ble_eq_true rfl) rfl rfl ?_
      have hgl := Nat.gcd_le_right (odS (H (40 + a)) n0 m (n0 + 1 - m)) (show 0 < 100 ^ n0 by omega)
      have hgp := Nat.gcd_pos_of_pos_right (odS (H (40 + a)) n0 m (n0 + 1 - m)) (show 0 < 100 ^ n0 by omega)
      refine pE_iload dX11_odds_120 rfl ?_
      refine pE_if_ne (tgt := 127) dX11_odds_122 (by decide) (fun h122 => ?_) (fun h122 => ?_)
      · have g122 := nq_ne0 (by omega) h122
        refine pE_iload dX11_odds_127 rfl ?_
        refine pE_if_ne (tgt := 140) dX11_odds_129 (by decide) (fun h129 => ?_) (fun h129 => ?_)
        · have g129 := nq_ne0 (by omega) h129
          refine pE_iload dX11_odds_140 rfl ?_
          refine pE_iload dX11_odds_142 rfl ?_
          refine pE_idiv dX11_odds_144 (by exact fun e => absurd (nq_eq0 (by omega) e) (by omega)) ?_
          rw [nI_div (by omega) (by omega)]
          refine pE_iret dX11_odds_145 rfl rfl ?_
          first | (rw [if_pos (by omega)] at hq; exact hq) | (rw [if_neg (by omega)] at hq; exact hq)
        · have g129 := nq_eq0 (by omega) h129
          refine pE_iload dX11_odds_132 rfl ?_
          refine pE_iload dX11_odds_134 rfl ?_
          refine pE_idiv dX11_odds_136 (by exact fun e => absurd (nq_eq0 (by omega) e) (by omega)) ?_
          rw [nI_div (by omega) (by omega)]
          refine pE_goto (tgt := 145) dX11_odds_137 (by decide) ?_
          refine pE_iret dX11_odds_145 rfl rfl ?_
          first | (rw [if_pos (by omega)] at hq; exact hq) | (rw [if_neg (by omega)] at hq; exact hq)
      · have g122 := nq_eq0 (by omega) h122
        exact absurd g122 (by have := Nat.gcd_pos_of_pos_right (odS (H (40 + a)) n0 m (n0 + 1 - m)) (show 0 < 100 ^ n0 by omega); omega)
    · have g62 := nq_nlt (by omega) (by omega) h62
      refine pE_iload dX11_odds_65 rfl ?_
      refine pE_iload_n dX11_odds_67 rfl rfl ?_
      refine pE_iload dX11_odds_68 rfl ?_
      refine pE_callS (d' := 0) (as := [_, _]) dX11_odds_70 lkX11_220 (cwX11_ways _ _) svX11_ways rfl rfl (Nat.le_of_ble_eq_true rfl) (by decide) pKK ?_
      refine M_X11_ways hn4 (by omega) ?_
      refine pE_bipush (v := nI 100) dX11_odds_73 rfl ?_
      refine pE_iload dX11_odds_75 rfl ?_
      refine pE_isubN dX11_odds_77 (by omega) ?_
      refine pE_iload dX11_odds_78 rfl ?_
      refine pE_callS (d' := 0) (as := [_, _]) dX11_odds_80 lkX11_223 (cwX11_power _ _) svX11_power rfl rfl (Nat.le_of_ble_eq_true rfl) (by decide) pKK ?_
      refine M_X11_power (by omega) ?_
      refine pE_imulN dX11_odds_83 ?_
      refine pE_iload dX11_odds_84 rfl ?_
      refine pE_iload_n dX11_odds_86 rfl rfl ?_
      refine pE_iload dX11_odds_87 rfl ?_
      refine pE_isubN dX11_odds_89 (by omega) ?_
      refine pE_callS (d' := 0) (as := [_, _]) dX11_odds_90 lkX11_223 (cwX11_power _ _) svX11_power rfl rfl (Nat.le_of_ble_eq_true rfl) (by decide) pKK ?_
      refine M_X11_power (by omega) ?_
      refine pE_imulN dX11_odds_93 ?_
      refine pE_iaddN dX11_odds_94 ?_
      refine pE_istore (lc' := [_, _, _, _, _, _, some (.int _), _, _]) dX11_odds_95 (Nat.le_of_ble_eq_true rfl) rfl rfl ?_
      refine pE_iincN (c0 := 1) (lc' := [_, _, _, _, _, _, _, some (.int _), _]) dX11_odds_97 rfl rfl rfl rfl ?_
      refine pE_goto (tgt := 59) dX11_odds_100 (by decide) ?_
      exact ih (j + 1) (by omega) (by omega)
set_option maxHeartbeats 4000000 in
set_option maxRecDepth 100000 in
theorem M_X11_odds {l : Launch} {X : pX} {t g : Nat} {I : pHI} {J : pHJ} {Q : pQ} {x y z u : Int32} {H : pN} (ht : isH t) (hH : cH t H I) (hr : rH H) (h1 : ∀ a, a < H 1 → x = nI a → ∀ n, n ≤ 4 → y = nI n → ∀ m, m ≤ n → z = nI m → ∀ w, w ≤ 1 → u = nI w → Q (some (.int (if w = 0 then nI (odS (H (40 + a)) n m (n + 1 - m) / Nat.gcd (odS (H (40 + a)) n m (n + 1 - m)) (100 ^ n)) else nI (100 ^ n / Nat.gcd (odS (H (40 + a)) n m (n + 1 - m)) (100 ^ n))))) I J (pR t g)) (h0 : (∀ a, a < H 1 → x = nI a → ∀ n, n ≤ 4 → y = nI n → ∀ m, m ≤ n → z = nI m → ∀ w, w ≤ 1 → u ≠ nI w) → Q (some (.int (-1))) I J (pR t g)) : pM l X yX11_odds mX11_odds 1 [.ref 0, .int x, .int y, .int z, .int u] pK pK I J (pR t g) Q := by
  obtain ⟨fHFht0, fHFht1, fHFht2, fHFht3, fHFht4, fHFht5, fHFht6, fHFht7, fHFht8, fHFht9, fHFht10, fHFht11, fHFht12, fHFht13, fHFht14, fHFht15, fHFht16, fHFht17, fHFht18, fHFht19, fHFht20, fHFht21, fHFht22, fHFht23, fHFht24, fHFht25, fHFht26⟩ := HF t g ht
  refine pM_of rfl (fun h => by cases h) rfl pKM (Nat.le_of_ble_eq_true rfl) ?_
  have hn8 := hr.2.1
  rcases nI_or y with hy | ⟨n0, hn, rfl⟩
  · refine pE_aload_n dX11_odds_0 rfl rfl ?_
    refine pE_getR dX11_odds_1 flX11_29 rfl (by first | assumption | rfl) (by first | assumption | rfl) ?_
    refine pE_iload_n dX11_odds_4 rfl rfl ?_
    refine pE_callV (d' := 0) (as := [_]) dX11_odds_5 lkX11_119 (cwX2_hasTenant _ _) ivX2_hasTenant ⟨_, rfl, rfl⟩ (by first | assumption | rfl) rfl rfl (Nat.le_of_ble_eq_true rfl) (by decide) pKK ?_
    refine M_X2_hasTenant (H := H) ht hH.2.2.1 hr.2.1 (fun a ha e1 => ?_) (fun hno => ?_)
    · subst e1
      refine pE_if_eq_f (tgt := 40) dX11_odds_8 (by decide) nI_1n0 ?_
      refine pE_iload_n dX11_odds_11 rfl rfl ?_
      refine pE_if_lt (tgt := 40) dX11_odds_12 (by decide) (fun h12' => ?_) (fun h12' => ?_)
      · refine pE_iconst (v := -1) dX11_odds_40 rfl ?_
        refine pE_iret dX11_odds_41 rfl rfl ?_
        first | exact h0 (fun a ha e1 => absurd e1 (hno a ha)) | exact h0 (fun a ha e1 n hn e2 => by rw [e2] at hy; exact absurd hy (nI_pos (by omega)))
      · exact absurd hy h12'
    · refine pE_if_eq_t (tgt := 40) dX11_odds_8 (by decide) nI_0 ?_
      refine pE_iconst (v := -1) dX11_odds_40 rfl ?_
      refine pE_iret dX11_odds_41 rfl rfl ?_
      first | exact h0 (fun a ha e1 => absurd e1 (hno a ha)) | exact h0 (fun a ha e1 n hn e2 => by rw [e2] at hy; exact absurd hy (nI_pos (by omega)))
  · rcases nI_or z with hz | ⟨m, hm, rfl⟩
    · refine pE_aload_n dX11_odds_0 rfl rfl ?_
      refine pE_getR dX11_odds_1 flX11_29 rfl (by first | assumption | rfl) (by first | assumption | rfl) ?_
      refine pE_iload_n dX11_odds_4 rfl rfl ?_
      refine pE_callV (d' := 0) (as := [_]) dX11_odds_5 lkX11_119 (cwX2_hasTenant _ _) ivX2_hasTenant ⟨_, rfl, rfl⟩ (by first | assumption | rfl) rfl rfl (Nat.le_of_ble_eq_true rfl) (by decide) pKK ?_
      refine M_X2_hasTenant (H := H) ht hH.2.2.1 hr.2.1 (fun a ha e1 => ?_) (fun hno => ?_)
      · subst e1
        refine pE_if_eq_f (tgt := 40) dX11_odds_8 (by decide) nI_1n0 ?_
        refine pE_iload_n dX11_odds_11 rfl rfl ?_
        refine pE_if_lt (tgt := 40) dX11_odds_12 (by decide) (fun h12' => ?_) (fun h12' => ?_)
        · exact absurd h12' (nI_pos (by omega))
        · refine pE_iload_n dX11_odds_15 rfl rfl ?_
          refine pE_iconst (v := nI 4) dX11_odds_16 rfl ?_
          refine pE_icmp_gt (tgt := 40) dX11_odds_17 (by decide) (fun h17 => ?_) (fun h17 => ?_)
          · have g17 := nq_lt (by omega) (by omega) h17
            refine pE_iconst (v := -1) dX11_odds_40 rfl ?_
            refine pE_iret dX11_odds_41 rfl rfl ?_
            first | exact h0 (fun a ha e1 => absurd e1 (hno a ha)) | exact h0 (fun a ha e1 n hn e2 => by have := nq_eq (by omega) (by omega) e2; omega) | exact h0 (fun a ha e1 n hn e2 m hm e3 => by rw [e3] at hz; exact absurd hz (nI_pos (by omega)))
          · have g17 := nq_nlt (by omega) (by omega) h17
            refine pE_iload_n dX11_odds_20 rfl rfl ?_
            refine pE_if_lt (tgt := 40) dX11_odds_21 (by decide) (fun h21' => ?_) (fun h21' => ?_)
            · refine pE_iconst (v := -1) dX11_odds_40 rfl ?_
              refine pE_iret dX11_odds_41 rfl rfl ?_
              first | exact h0 (fun a ha e1 => absurd e1 (hno a ha)) | exact h0 (fun a ha e1 n hn e2 => by have := nq_eq (by omega) (by omega) e2; omega) | exact h0 (fun a ha e1 n hn e2 m hm e3 => by rw [e3] at hz; exact absurd hz (nI_pos (by omega)))
            · exact absurd hz h21'
      · refine pE_if_eq_t (tgt := 40) dX11_odds_8 (by decide) nI_0 ?_
        refine pE_iconst (v := -1) dX11_odds_40 rfl ?_
        refine pE_iret dX11_odds_41 rfl rfl ?_
        first | exact h0 (fun a ha e1 => absurd e1 (hno a ha)) | exact h0 (fun a ha e1 n hn e2 => by have := nq_eq (by omega) (by omega) e2; omega) | exact h0 (fun a ha e1 n hn e2 m hm e3 => by rw [e3] at hz; exact absurd hz (nI_pos (by omega)))
    · rcases nI_or u with hu | ⟨w, hw, rfl⟩
      · refine pE_aload_n dX11_odds_0 rfl rfl ?_
        refine pE_getR dX11_odds_1 flX11_29 rfl (by first | assumption | rfl) (by first | assumption | rfl) ?_
        refine pE_iload_n dX11_odds_4 rfl rfl ?_
        refine pE_callV (d' := 0) (as := [_]) dX11_odds_5 lkX11_119 (cwX2_hasTenant _ _) ivX2_hasTenant ⟨_, rfl, rfl⟩ (by first | assumption | rfl) rfl rfl (Nat.le_of_ble_eq_true rfl) (by decide) pKK ?_
        refine M_X2_hasTenant (H := H) ht hH.2.2.1 hr.2.1 (fun a ha e1 => ?_) (fun hno => ?_)
        · subst e1
          refine pE_if_eq_f (tgt := 40) dX11_odds_8 (by decide) nI_1n0 ?_
          refine pE_iload_n dX11_odds_11 rfl rfl ?_
          refine pE_if_lt (tgt := 40) dX11_odds_12 (by decide) (fun h12' => ?_) (fun h12' => ?_)
          · exact absurd h12' (nI_pos (by omega))
          · refine pE_iload_n dX11_odds_15 rfl rfl ?_
            refine pE_iconst (v := nI 4) dX11_odds_16 rfl ?_
            refine pE_icmp_gt (tgt := 40) dX11_odds_17 (by decide) (fun h17 => ?_) (fun h17 => ?_)
            · have g17 := nq_lt (by omega) (by omega) h17
              refine pE_iconst (v := -1) dX11_odds_40 rfl ?_
              refine pE_iret dX11_odds_41 rfl rfl ?_
              first | exact h0 (fun a ha e1 => absurd e1 (hno a ha)) | exact h0 (fun a ha e1 n hn e2 m hm e3 w hw e4 => by rw [e4] at hu; exact absurd hu (nI_pos (by omega))) | exact h0 (fun a ha e1 n hn e2 m hm e3 w hw e4 => by have q1 := nq_eq (by omega) (by omega) e2; have q2 := nq_eq (by omega) (by omega) e3; omega)
            · have g17 := nq_nlt (by omega) (by omega) h17
              refine pE_iload_n dX11_odds_20 rfl rfl ?_
              refine pE_if_lt (tgt := 40) dX11_odds_21 (by decide) (fun h21' => ?_) (fun h21' => ?_)
              · exact absurd h21' (nI_pos (by omega))
              · refine pE_iload_n dX11_odds_24 rfl rfl ?_
                refine pE_iload_n dX11_odds_25 rfl rfl ?_
                refine pE_icmp_gt (tgt := 40) dX11_odds_26 (by decide) (fun h26 => ?_) (fun h26 => ?_)
                · have g26 := nq_lt (by omega) (by omega) h26
                  refine pE_iconst (v := -1) dX11_odds_40 rfl ?_
                  refine pE_iret dX11_odds_41 rfl rfl ?_
                  first | exact h0 (fun a ha e1 => absurd e1 (hno a ha)) | exact h0 (fun a ha e1 n hn e2 m hm e3 w hw e4 => by rw [e4] at hu; exact absurd hu (nI_pos (by omega))) | exact h0 (fun a ha e1 n hn e2 m hm e3 w hw e4 => by have q1 := nq_eq (by omega) (by omega) e2; have q2 := nq_eq (by omega) (by omega) e3; omega)
                · have g26 := nq_nlt (by omega) (by omega) h26
                  refine pE_iload dX11_odds_29 rfl ?_
                  refine pE_if_lt (tgt := 40) dX11_odds_31 (by decide) (fun h31' => ?_) (fun h31' => ?_)
                  · refine pE_iconst (v := -1) dX11_odds_40 rfl ?_
                    refine pE_iret dX11_odds_41 rfl rfl ?_
                    first | exact h0 (fun a ha e1 => absurd e1 (hno a ha)) | exact h0 (fun a ha e1 n hn e2 m hm e3 w hw e4 => by rw [e4] at hu; exact absurd hu (nI_pos (by omega))) | exact h0 (fun a ha e1 n hn e2 m hm e3 w hw e4 => by have q1 := nq_eq (by omega) (by omega) e2; have q2 := nq_eq (by omega) (by omega) e3; omega)
                  · exact absurd hu h31'
        · refine pE_if_eq_t (tgt := 40) dX11_odds_8 (by decide) nI_0 ?_
          refine pE_iconst (v := -1) dX11_odds_40 rfl ?_
          refine pE_iret dX11_odds_41 rfl rfl ?_
          first | exact h0 (fun a ha e1 => absurd e1 (hno a ha)) | exact h0 (fun a ha e1 n hn e2 m hm e3 w hw e4 => by rw [e4] at hu; exact absurd hu (nI_pos (by omega))) | exact h0 (fun a ha e1 n hn e2 m hm e3 w hw e4 => by have q1 := nq_eq (by omega) (by omega) e2; have q2 := nq_eq (by omega) (by omega) e3; omega)
      · refine pE_aload_n dX11_odds_0 rfl rfl ?_
        refine pE_getR dX11_odds_1 flX11_29 rfl (by first | assumption | rfl) (by first | assumption | rfl) ?_
        refine pE_iload_n dX11_odds_4 rfl rfl ?_
        refine pE_callV (d' := 0) (as := [_]) dX11_odds_5 lkX11_119 (cwX2_hasTenant _ _) ivX2_hasTenant ⟨_, rfl, rfl⟩ (by first | assumption | rfl) rfl rfl (Nat.le_of_ble_eq_true rfl) (by decide) pKK ?_
        refine M_X2_hasTenant (H := H) ht hH.2.2.1 hr.2.1 (fun a ha e1 => ?_) (fun hno => ?_)
        · subst e1
          refine pE_if_eq_f (tgt := 40) dX11_odds_8 (by decide) nI_1n0 ?_
          refine pE_iload_n dX11_odds_11 rfl rfl ?_
          refine pE_if_lt (tgt := 40) dX11_odds_12 (by decide) (fun h12' => ?_) (fun h12' => ?_)
          · exact absurd h12' (nI_pos (by omega))
          · refine pE_iload_n dX11_odds_15 rfl rfl ?_
            refine pE_iconst (v := nI 4) dX11_odds_16 rfl ?_
            refine pE_icmp_gt (tgt := 40) dX11_odds_17 (by decide) (fun h17 => ?_) (fun h17 => ?_)
            · have g17 := nq_lt (by omega) (by omega) h17
              refine pE_iconst (v := -1) dX11_odds_40 rfl ?_
              refine pE_iret dX11_odds_41 rfl rfl ?_
              first | exact h0 (fun a ha e1 => absurd e1 (hno a ha)) | exact h0 (fun a ha e1 n hn e2 m hm e3 w hw e4 => by have q1 := nq_eq (by omega) (by omega) e2; have q2 := nq_eq (by omega) (by omega) e3; have q3 := nq_eq (by omega) (by omega) e4; omega)
            · have g17 := nq_nlt (by omega) (by omega) h17
              refine pE_iload_n dX11_odds_20 rfl rfl ?_
              refine pE_if_lt (tgt := 40) dX11_odds_21 (by decide) (fun h21' => ?_) (fun h21' => ?_)
              · exact absurd h21' (nI_pos (by omega))
              · refine pE_iload_n dX11_odds_24 rfl rfl ?_
                refine pE_iload_n dX11_odds_25 rfl rfl ?_
                refine pE_icmp_gt (tgt := 40) dX11_odds_26 (by decide) (fun h26 => ?_) (fun h26 => ?_)
                · have g26 := nq_lt (by omega) (by omega) h26
                  refine pE_iconst (v := -1) dX11_odds_40 rfl ?_
                  refine pE_iret dX11_odds_41 rfl rfl ?_
                  first | exact h0 (fun a ha e1 => absurd e1 (hno a ha)) | exact h0 (fun a ha e1 n hn e2 m hm e3 w hw e4 => by have q1 := nq_eq (by omega) (by omega) e2; have q2 := nq_eq (by omega) (by omega) e3; have q3 := nq_eq (by omega) (by omega) e4; omega)
                · have g26 := nq_nlt (by omega) (by omega) h26
                  refine pE_iload dX11_odds_29 rfl ?_
                  refine pE_if_lt (tgt := 40) dX11_odds_31 (by decide) (fun h31' => ?_) (fun h31' => ?_)
                  · exact absurd h31' (nI_pos (by omega))
                  · refine pE_iload dX11_odds_34 rfl ?_
                    refine pE_iconst (v := nI 1) dX11_odds_36 rfl ?_
                    refine pE_icmp_le (tgt := 42) dX11_odds_37 (by decide) (fun h37 => ?_) (fun h37 => ?_)
                    · have g37 := nq_le (by omega) (by omega) h37
                      refine pE_aload_n dX11_odds_42 rfl rfl ?_
                      refine pE_getR dX11_odds_43 flX11_29 rfl (by first | assumption | rfl) (by first | assumption | rfl) ?_
                      refine pE_getR dX11_odds_46 flX11_136 rfl (by first | assumption | rfl) (by first | assumption | rfl) ?_
                      refine pE_iload_n dX11_odds_49 rfl rfl ?_
                      refine pE_ialoadN dX11_odds_50 (by first | assumption | rfl) (by first | assumption | omega) (by omega) ?_
                      rw [(hH.2.2.2.2.2 a (by omega)).2.2.2.2]
                      refine pE_istore (lc' := [_, _, _, _, _, some (.int _), _, _, _]) dX11_odds_51 (Nat.le_of_ble_eq_true rfl) rfl rfl ?_
                      refine pE_iconst (v := nI 0) dX11_odds_53 rfl ?_
                      refine pE_istore (lc' := [_, _, _, _, _, _, some (.int _), _, _]) dX11_odds_54 (Nat.le_of_ble_eq_true rfl) rfl rfl ?_
                      refine pE_iload_n dX11_odds_56 rfl rfl ?_
                      refine pE_istore (lc' := [_, _, _, _, _, _, _, some (.int _), _]) dX11_odds_57 (Nat.le_of_ble_eq_true rfl) rfl rfl ?_
                      exact L_X11_odds (hr.2.2.2.2 a (by omega)).2.2.2.2 (by omega) (by omega) (by omega) (h1 a ha rfl n0 (by omega) rfl m (by omega) rfl w (by omega) rfl) (n0 + 1 - m + 1) 0 (by omega) (by omega)
                    · have g37 := nq_nle (by omega) (by omega) h37
                      refine pE_iconst (v := -1) dX11_odds_40 rfl ?_
                      refine pE_iret dX11_odds_41 rfl rfl ?_
                      first | exact h0 (fun a ha e1 => absurd e1 (hno a ha)) | exact h0 (fun a ha e1 n hn e2 m hm e3 w hw e4 => by have q1 := nq_eq (by omega) (by omega) e2; have q2 := nq_eq (by omega) (by omega) e3; have q3 := nq_eq (by omega) (by omega) e4; omega)
        · refine pE_if_eq_t (tgt := 40) dX11_odds_8 (by decide) nI_0 ?_
          refine pE_iconst (v := -1) dX11_odds_40 rfl ?_
          refine pE_iret dX11_odds_41 rfl rfl ?_
          first | exact h0 (fun a ha e1 => absurd e1 (hno a ha)) | exact h0 (fun a ha e1 n hn e2 m hm e3 w hw e4 => by have q1 := nq_eq (by omega) (by omega) e2; have q2 := nq_eq (by omega) (by omega) e3; have q3 := nq_eq (by omega) (by omega) e4; omega)
set_option maxHeartbeats 4000000 in
set_option maxRecDepth 100000 in
theorem L_X12_odds {l : Launch} {X : pX} {t g : Nat} {I : pHI} {J : pHJ} {Q : pQ} {a n0 m w : Nat} {H : pN} (hH : mH H I) (hr : rH H) (ha : a < H 1) (hn4 : n0 ≤ 4) (hm : m ≤ n0) (hw : w ≤ 1) (hq : Q (some (.int (if w = 0 then nI (odS (H (40 + a)) n0 m (n0 + 1 - m) / Nat.gcd (odS (H (40 + a)) n0 m (n0 + 1 - m)) (100 ^ n0)) else nI (100 ^ n0 / Nat.gcd (odS (H (40 + a)) n0 m (n0 + 1 - m)) (100 ^ n0))))) I J (pR t g)) : ∀ (n j : Nat) (v7 : Option Value), 2 ^ n0 - j < n → j ≤ 2 ^ n0 → pE l X mX12_odds 2 pK 44 [some (.ref 67), some (.int (nI a)), some (.int (nI n0)), some (.int (nI m)), some (.int (nI w)), some (.int (nI (odM (H (40 + a)) n0 m j))), some (.int (nI j)), v7] [] pK I J (pR t g) Q := by
  intro n
  induction n with
  | zero => intro j v7 hn hj; exact absurd hn (Nat.not_lt_zero _)
  | succ n ih =>
    intro j v7 hn hj
    have hn8 := hr.2.1
    have hf := (hr.2.2.2.2 a (by omega)).2.2.2.2
    have hp4 : 1 ≤ 100 ^ n0 ∧ 100 ^ n0 ≤ 100000000 := by
      have : ∀ n, n ≤ 4 → 1 ≤ 100 ^ n ∧ 100 ^ n ≤ 100000000 := by decide
      exact this n0 hn4
    have hod := (od_eq hf hn4 hm).2
    have hoe := (od_eq hf hn4 hm).1
    have h216 : 2 ^ n0 ≤ 16 := by
      have : ∀ n, n ≤ 4 → 2 ^ n ≤ 16 := by decide
      exact this n0 hn4
    have hpj : j < 2 ^ n0 → popN j 8 ≤ n0 := by
      have : ∀ n, n ≤ 4 → ∀ j, j < 2 ^ n → popN j 8 ≤ n := by decide +kernel
      exact this n0 hn4 j
    refine pE_iload dX12_odds_44 rfl ?_
    refine pE_iconst (v := nI 1) dX12_odds_46 rfl ?_
    refine pE_iload_n dX12_odds_47 rfl rfl ?_
    refine pE_ishl dX12_odds_48 ?_
    rw [one_shl (by omega)]
    refine pE_icmp_ge (tgt := 108) dX12_odds_49 (by decide) (fun h49 => ?_) (fun h49 => ?_)
    · have g49 := nq_le (by omega) (by omega) h49
      obtain rfl : j = 2 ^ n0 := by omega
      rw [hoe]
      refine pE_bipush (v := nI 100) dX12_odds_108 rfl ?_
      refine pE_iload_n dX12_odds_110 rfl rfl ?_
      refine pE_callS (d' := 0) (as := [_, _]) dX12_odds_111 lkX12_424 (cwX12_power _ _) svX12_power rfl rfl (Nat.le_of_ble_eq_true rfl) (by decide) pKK ?_
      refine M_X12_power (by omega) ?_
      refine pE_istore (lc' := [_, _, _, _, _, _, some (.int _), _]) dX12_odds_114 (Nat.le_of_ble_eq_true rfl) rfl rfl ?_
      refine pE_iload dX12_odds_116 rfl ?_
      refine pE_iload dX12_odds_118 rfl ?_
      refine pE_callS (d' := 0) (as := [_, _]) dX12_odds_120 lkX12_482 (cwX12_divisor _ _) svX12_divisor rfl rfl (Nat.le_of_ble_eq_true rfl) (by decide) pKK ?_
      refine M_X12_divisor hp4.2 (by omega) ?_
      refine pE_istore (lc' := [_, _, _, _, _, _, _, some (.int _)]) dX12_odds_123 (Nat.le_of_ble_eq_true rfl) rfl rfl ?_
      rw [Nat.gcd_comm]
      have hgl := Nat.gcd_le_right (odS (H (40 + a)) n0 m (n0 + 1 - m)) (show 0 < 100 ^ n0 by omega)
      have hgp := Nat.gcd_pos_of_pos_right (odS (H (40 + a)) n0 m (n0 + 1 - m)) (show 0 < 100 ^ n0 by omega)
      refine pE_iload dX12_odds_125 rfl ?_
      refine pE_if_ne (tgt := 138) dX12_odds_127 (by decide) (fun h127 => ?_) (fun h127 => ?_)
      · have g127 := nq_ne0 (by omega) h127
        refine pE_iload dX12_odds_138 rfl ?_
        refine pE_iload dX12_odds_140 rfl ?_
        refine pE_idiv dX12_odds_142 (by exact fun e => absurd (nq_eq0 (by omega) e) (by omega)) ?_
        rw [nI_div (by omega) (by omega)]
        refine pE_iret dX12_odds_143 rfl rfl ?_
        first | (rw [if_pos (by omega)] at hq; exact hq) | (rw [if_neg (by omega)] at hq; exact hq)
      · have g127 := nq_eq0 (by omega) h127
        refine pE_iload dX12_odds_130 rfl ?_
        refine pE_iload dX12_odds_132 rfl ?_
        refine pE_idiv dX12_odds_134 (by exact fun e => absurd (nq_eq0 (by omega) e) (by omega)) ?_
        rw [nI_div (by omega) (by omega)]
        refine pE_goto (tgt := 143) dX12_odds_135 (by decide) ?_
        refine pE_iret dX12_odds_143 rfl rfl ?_
        first | (rw [if_pos (by omega)] at hq; exact hq) | (rw [if_neg (by omega)] at hq; exact hq)
    · have g49 := nq_nle (by omega) (by omega) h49
      have hpj2 := hpj (by omega)
      refine pE_iload dX12_odds_52 rfl ?_
      refine pE_callS (d' := 0) (as := [_]) dX12_odds_54 lkX12_479 (cwX12_members _ _) svX12_members rfl rfl (Nat.le_of_ble_eq_true rfl) (by decide) pKK ?_
      refine M_X12_members (by omega) ?_
      refine pE_istore (lc' := [_, _, _, _, _, _, _, some (.int _)]) dX12_odds_57 (Nat.le_of_ble_eq_true rfl) rfl rfl ?_
      refine pE_iload dX12_odds_59 rfl ?_
      refine pE_iload dX12_odds_61 rfl ?_
      refine pE_iload_n dX12_odds_63 rfl rfl ?_
      refine pE_icmp_lt (tgt := 98) dX12_odds_64 (by decide) (fun h64 => ?_) (fun h64 => ?_)
      · have g64 := nq_lt (by omega) (by omega) h64
        refine pE_iconst (v := nI 0) dX12_odds_98 rfl ?_
        refine pE_iaddN dX12_odds_99 ?_
        refine pE_istore (lc' := [_, _, _, _, _, some (.int _), _, _]) dX12_odds_100 (Nat.le_of_ble_eq_true rfl) rfl rfl ?_
        refine pE_iincN (c0 := 1) (lc' := [_, _, _, _, _, _, some (.int _), _]) dX12_odds_102 rfl rfl rfl rfl ?_
        refine pE_goto (tgt := 44) dX12_odds_105 (by decide) ?_
        refine pE_cg (ih (j + 1) (some (.int (nI (popN j 8)))) (by omega) (by omega)) (by
            simp only [odM]
            first | (rw [if_pos (by omega)]; first | done | rfl) | (rw [if_neg (by omega)]; first | done | rfl)) rfl rfl rfl rfl
      · have g64 := nq_nlt (by omega) (by omega) h64
        refine pE_bipush (v := nI 100) dX12_odds_67 rfl ?_
        refine pE_aload_n dX12_odds_69 rfl rfl ?_
        refine pE_getR dX12_odds_70 flX12_79 rfl (by first | assumption | rfl) (by first | assumption | rfl) ?_
        refine pE_iload_n dX12_odds_73 rfl rfl ?_
        refine pE_ialoadN dX12_odds_74 (by first | assumption | rfl) (by first | assumption | omega) (by omega) ?_
        rw [(hH.2.2.2 a ha).2.2.2.2]
        refine pE_isubN dX12_odds_75 (by omega) ?_
        refine pE_iload dX12_odds_76 rfl ?_
        refine pE_callS (d' := 0) (as := [_, _]) dX12_odds_78 lkX12_424 (cwX12_power _ _) svX12_power rfl rfl (Nat.le_of_ble_eq_true rfl) (by decide) pKK ?_
        refine M_X12_power (by omega) ?_
        refine pE_aload_n dX12_odds_81 rfl rfl ?_
        refine pE_getR dX12_odds_82 flX12_79 rfl (by first | assumption | rfl) (by first | assumption | rfl) ?_
        refine pE_iload_n dX12_odds_85 rfl rfl ?_
        refine pE_ialoadN dX12_odds_86 (by first | assumption | rfl) (by first | assumption | omega) (by omega) ?_
        rw [(hH.2.2.2 a ha).2.2.2.2]
        refine pE_iload_n dX12_odds_87 rfl rfl ?_
        refine pE_iload dX12_odds_88 rfl ?_
        refine pE_isubN dX12_odds_90 (by omega) ?_
        refine pE_callS (d' := 0) (as := [_, _]) dX12_odds_91 lkX12_424 (cwX12_power _ _) svX12_power rfl rfl (Nat.le_of_ble_eq_true rfl) (by decide) pKK ?_
        refine M_X12_power (by omega) ?_
        refine pE_imulN dX12_odds_94 ?_
        refine pE_goto (tgt := 99) dX12_odds_95 (by decide) ?_
        refine pE_iaddN dX12_odds_99 ?_
        refine pE_istore (lc' := [_, _, _, _, _, some (.int _), _, _]) dX12_odds_100 (Nat.le_of_ble_eq_true rfl) rfl rfl ?_
        refine pE_iincN (c0 := 1) (lc' := [_, _, _, _, _, _, some (.int _), _]) dX12_odds_102 rfl rfl rfl rfl ?_
        refine pE_goto (tgt := 44) dX12_odds_105 (by decide) ?_
        refine pE_cg (ih (j + 1) (some (.int (nI (popN j 8)))) (by omega) (by omega)) (by
            simp only [odM]
            first | (rw [if_pos (by omega)]; first | done | rfl) | (rw [if_neg (by omega)]; first | done | rfl)) rfl rfl rfl rfl
set_option maxHeartbeats 4000000 in
set_option maxRecDepth 100000 in
theorem M_X12_odds {l : Launch} {X : pX} {t g : Nat} {I : pHI} {J : pHJ} {Q : pQ} {x y z u : Int32} {H : pN} (hH : mH H I) (hr : rH H) (h1 : ∀ a, a < H 1 → x = nI a → ∀ n, n ≤ 4 → y = nI n → ∀ m, m ≤ n → z = nI m → ∀ w, w ≤ 1 → u = nI w → Q (some (.int (if w = 0 then nI (odS (H (40 + a)) n m (n + 1 - m) / Nat.gcd (odS (H (40 + a)) n m (n + 1 - m)) (100 ^ n)) else nI (100 ^ n / Nat.gcd (odS (H (40 + a)) n m (n + 1 - m)) (100 ^ n))))) I J (pR t g)) (h0 : (∀ a, a < H 1 → x = nI a → ∀ n, n ≤ 4 → y = nI n → ∀ m, m ≤ n → z = nI m → ∀ w, w ≤ 1 → u ≠ nI w) → Q (some (.int (-1))) I J (pR t g)) : pM l X yX12_odds mX12_odds 2 [.ref 67, .int x, .int y, .int z, .int u] pK pK I J (pR t g) Q := by
  have hn8 := hr.2.1
  refine pM_of rfl (fun h => by cases h) rfl pKM (Nat.le_of_ble_eq_true rfl) ?_
  refine pE_aload_n dX12_odds_0 rfl rfl ?_
  refine pE_iload_n dX12_odds_1 rfl rfl ?_
  refine pE_callV (d' := 1) (as := [_]) dX12_odds_2 lkX12_382 (cwX12_isTenant _ _) ivX12_isTenant ⟨_, rfl, rfl⟩ (by first | assumption | rfl) rfl rfl (Nat.le_of_ble_eq_true rfl) (by decide) pKK ?_
  refine M_X12_isTenant (H := H) hH.2.1 hr.2.1 (fun a ha e1 => ?_) (fun hnt => ?_)
  · subst e1
    refine pE_if_eq_f (tgt := 36) dX12_odds_5 (by decide) nI_1n0 ?_
    refine pE_iload_n dX12_odds_8 rfl rfl ?_
    refine pE_iconst (v := nI 0) dX12_odds_9 rfl ?_
    refine pE_iconst (v := nI 4) dX12_odds_10 rfl ?_
    refine pE_callS (d' := 0) (as := [_, _, _]) dX12_odds_11 lkX12_368 (cwX12_isIn _ _) svX12_isIn rfl rfl (Nat.le_of_ble_eq_true rfl) (by decide) pKK ?_
    refine M_X12_isIn  (fun k1 k2 => ?_) (fun k => ?_)
    · obtain ⟨n0, rfl, -, hn4⟩ := in_rng (by omega) (by omega) k1 k2
      refine pE_if_eq_f (tgt := 36) dX12_odds_14 (by decide) nI_1n0 ?_
      refine pE_iload_n dX12_odds_17 rfl rfl ?_
      refine pE_iconst (v := nI 0) dX12_odds_18 rfl ?_
      refine pE_iload_n dX12_odds_19 rfl rfl ?_
      refine pE_callS (d' := 0) (as := [_, _, _]) dX12_odds_20 lkX12_368 (cwX12_isIn _ _) svX12_isIn rfl rfl (Nat.le_of_ble_eq_true rfl) (by decide) pKK ?_
      refine M_X12_isIn  (fun k1 k2 => ?_) (fun k => ?_)
      · obtain ⟨m, rfl, -, hm⟩ := in_rng (by omega) (by omega) k1 k2
        refine pE_if_eq_f (tgt := 36) dX12_odds_23 (by decide) nI_1n0 ?_
        refine pE_iload dX12_odds_26 rfl ?_
        refine pE_iconst (v := nI 0) dX12_odds_28 rfl ?_
        refine pE_iconst (v := nI 1) dX12_odds_29 rfl ?_
        refine pE_callS (d' := 0) (as := [_, _, _]) dX12_odds_30 lkX12_368 (cwX12_isIn _ _) svX12_isIn rfl rfl (Nat.le_of_ble_eq_true rfl) (by decide) pKK ?_
        refine M_X12_isIn  (fun k1 k2 => ?_) (fun k => ?_)
        · obtain ⟨w, rfl, -, hw⟩ := in_rng (by omega) (by omega) k1 k2
          refine pE_if_ne_t (tgt := 38) dX12_odds_33 (by decide) nI_1n0 ?_
          refine pE_iconst (v := nI 0) dX12_odds_38 rfl ?_
          refine pE_istore (lc' := [_, _, _, _, _, some (.int _), _, _]) dX12_odds_39 (Nat.le_of_ble_eq_true rfl) rfl rfl ?_
          refine pE_iconst (v := nI 0) dX12_odds_41 rfl ?_
          refine pE_istore (lc' := [_, _, _, _, _, _, some (.int _), _]) dX12_odds_42 (Nat.le_of_ble_eq_true rfl) rfl rfl ?_
          exact L_X12_odds hH hr ha hn4 hm hw (h1 a ha rfl n0 hn4 rfl m hm rfl w hw rfl) (2 ^ n0 + 1) 0 _ (Nat.lt_succ_of_le (Nat.sub_le _ _)) (Nat.zero_le _)
        · have hno := out_rng (by omega) (by omega) k
          refine pE_if_ne_f (tgt := 38) dX12_odds_33 (by decide) nI_0 ?_
          refine pE_iconst (v := -1) dX12_odds_36 rfl ?_
          refine pE_iret dX12_odds_37 rfl rfl ?_
          first | exact h0 (fun a ha e1 => absurd e1 (hnt a ha)) | exact h0 (fun a ha e1 n hn e2 => absurd e2 (hno n (Nat.zero_le _) hn)) | exact h0 (fun a ha e1 n hn e2 m hm e3 => by have q1 := nq_eq (by omega) (by omega) e2; subst q1; exact absurd e3 (hno m (Nat.zero_le _) hm)) | exact h0 (fun a ha e1 n hn e2 m hm e3 w hw e4 => hno w (Nat.zero_le _) hw e4)
      · have hno := out_rng (by omega) (by omega) k
        refine pE_if_eq_t (tgt := 36) dX12_odds_23 (by decide) nI_0 ?_
        refine pE_iconst (v := -1) dX12_odds_36 rfl ?_
        refine pE_iret dX12_odds_37 rfl rfl ?_
        first | exact h0 (fun a ha e1 => absurd e1 (hnt a ha)) | exact h0 (fun a ha e1 n hn e2 => absurd e2 (hno n (Nat.zero_le _) hn)) | exact h0 (fun a ha e1 n hn e2 m hm e3 => by have q1 := nq_eq (by omega) (by omega) e2; subst q1; exact absurd e3 (hno m (Nat.zero_le _) hm)) | exact h0 (fun a ha e1 n hn e2 m hm e3 w hw e4 => hno w (Nat.zero_le _) hw e4)
    · have hno := out_rng (by omega) (by omega) k
      refine pE_if_eq_t (tgt := 36) dX12_odds_14 (by decide) nI_0 ?_
      refine pE_iconst (v := -1) dX12_odds_36 rfl ?_
      refine pE_iret dX12_odds_37 rfl rfl ?_
      first | exact h0 (fun a ha e1 => absurd e1 (hnt a ha)) | exact h0 (fun a ha e1 n hn e2 => absurd e2 (hno n (Nat.zero_le _) hn)) | exact h0 (fun a ha e1 n hn e2 m hm e3 => by have q1 := nq_eq (by omega) (by omega) e2; subst q1; exact absurd e3 (hno m (Nat.zero_le _) hm)) | exact h0 (fun a ha e1 n hn e2 m hm e3 w hw e4 => hno w (Nat.zero_le _) hw e4)
  · refine pE_if_eq_t (tgt := 36) dX12_odds_5 (by decide) nI_0 ?_
    refine pE_iconst (v := -1) dX12_odds_36 rfl ?_
    refine pE_iret dX12_odds_37 rfl rfl ?_
    first | exact h0 (fun a ha e1 => absurd e1 (hnt a ha)) | exact h0 (fun a ha e1 n hn e2 => absurd e2 (hno n (Nat.zero_le _) hn)) | exact h0 (fun a ha e1 n hn e2 m hm e3 => by have q1 := nq_eq (by omega) (by omega) e2; subst q1; exact absurd e3 (hno m (Nat.zero_le _) hm)) | exact h0 (fun a ha e1 n hn e2 m hm e3 w hw e4 => hno w (Nat.zero_le _) hw e4)
