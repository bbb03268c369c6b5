theorem CS3 {s a b m : Nat} {T : pN} {I : pHI} (hS : cS s T I) (hab : a ≠ b) (ha : a < 8) (hb : b < 8) : cS s (givN T a b m) (pu (pu I (s + 2) a (nI (T (8 + a) - m))) (s + 2) b (nI (T (8 + b) + m))) := (hS.pd ha).pd hb
set_option maxHeartbeats 4000000 in
set_option maxRecDepth 100000 in
theorem L_X11_lacksAhead {l : Launch} {X : pX} {t g : Nat} {I : pHI} {J : pHJ} {Q : pQ} {B : Nat} {H T : pN} (ht : isH t) (hH : cH t H I) (hr : rH H) (hS : cS 37 T I) (hrT : rS B H T) (hq : Q (some (.int (nI (sumN (lackN H T) (H 1))))) I J (pR t g)) : ∀ (n j : Nat), H 1 - j < n → j ≤ H 1 → pE l X mX11_lacksAhead 2 pK 4 [some (.ref 0), some (.int (nI (sumN (lackN H T) j))), some (.int (nI j))] [] pK I J (pR t g) Q := by
  obtain ⟨fHFht0, fHFht1, fHFht2, fHFht3, fHFht4, fHFht5, fHFht6, fHFht7, fHFht8, fHFht9, fHFht10, fHFht11, fHFht12, fHFht13, fHFht14, fHFht15, fHFht16, fHFht17, fHFht18, fHFht19, fHFht20, fHFht21, fHFht22, fHFht23, fHFht24, fHFht25, fHFht26⟩ := HF t g ht
  intro n
  induction n with
  | zero => intro j hn hj; exact absurd hn (Nat.not_lt_zero _)
  | succ n ih =>
    intro j hn hj
    have hn8 := hr.2.1
    refine pE_iload_n dX11_lacksAhead_4 rfl rfl ?_
    refine pE_aload_n dX11_lacksAhead_5 rfl rfl ?_
    refine pE_getR dX11_lacksAhead_6 flX11_29 rfl (by first | assumption | rfl) (by first | assumption | rfl) ?_
    refine pE_getI dX11_lacksAhead_9 flX11_110 rfl (Or.inl rfl) (by first | assumption | rfl) ?_
    rw [hH.2.2.1]
    refine pE_icmp_ge (tgt := 36) dX11_lacksAhead_12 (by decide) (fun h12 => ?_) (fun h12 => ?_)
    · have g12 := nq_le (by omega) (by omega) h12
      refine pE_iload_n dX11_lacksAhead_36 rfl rfl ?_
      refine pE_iret dX11_lacksAhead_37 rfl rfl ?_
      obtain rfl : j = H 1 := by omega
      exact hq
    · have g12 := nq_nle (by omega) (by omega) h12
      have hlb := lack_leB hr hrT (show j < 8 by omega)
      refine pE_iload_n dX11_lacksAhead_15 rfl rfl ?_
      refine pE_aload_n dX11_lacksAhead_16 rfl rfl ?_
      refine pE_getR dX11_lacksAhead_17 flX11_29 rfl (by first | assumption | rfl) (by first | assumption | rfl) ?_
      refine pE_aload_n dX11_lacksAhead_20 rfl rfl ?_
      refine pE_getR dX11_lacksAhead_21 flX11_43 rfl (by first | assumption | rfl) (by first | assumption | rfl) ?_
      refine pE_iload_n dX11_lacksAhead_24 rfl rfl ?_
      refine pE_callV (d' := 1) (as := [_, _]) dX11_lacksAhead_25 lkX11_148 (cwX2_lackOf _ _) ivX2_lackOf ⟨_, rfl, rfl⟩ (by first | assumption | rfl) rfl rfl (Nat.le_of_ble_eq_true rfl) (by decide) pKK ?_
      refine M_X2_lackOf (H := H) (T := T) ht (Or.inr rfl) (by omega) (hH.2.2.2.2.2 j (by omega)).2.2.2.1 (hS.2.2.2.2 j (by omega)).2.2 (hS.2.2.2.2 j (by omega)).2.1 hlb.1 hlb.2.1 hlb.2.2.1 ?_
      refine pE_iaddN dX11_lacksAhead_28 ?_
      refine pE_istore_n (lc' := [_, some (.int _), _]) dX11_lacksAhead_29 rfl (Nat.le_of_ble_eq_true rfl) rfl rfl ?_
      refine pE_iincN (c0 := 1) (lc' := [_, _, some (.int _)]) dX11_lacksAhead_30 rfl rfl rfl rfl ?_
      refine pE_goto (tgt := 4) dX11_lacksAhead_33 (by decide) ?_
      exact ih (j + 1) (by omega) (by omega)
set_option maxHeartbeats 4000000 in
set_option maxRecDepth 100000 in
theorem M_X11_lacksAhead {l : Launch} {X : pX} {t g : Nat} {I : pHI} {J : pHJ} {Q : pQ} {B : Nat} {H T : pN} (ht : isH t) (hH : cH t H I) (hr : rH H) (hS : cS 37 T I) (hrT : rS B H T) (hq : Q (some (.int (nI (sumN (lackN H T) (H 1))))) I J (pR t g)) : pM l X yX11_lacksAhead mX11_lacksAhead 2 [.ref 0] pK pK I J (pR t g) Q := by
  refine pM_of rfl (fun h => by cases h) rfl pKM (Nat.le_of_ble_eq_true rfl) ?_
  refine pE_iconst (v := nI 0) dX11_lacksAhead_0 rfl ?_
  refine pE_istore_n (lc' := [_, some (.int _), _]) dX11_lacksAhead_1 rfl (Nat.le_of_ble_eq_true rfl) rfl rfl ?_
  refine pE_iconst (v := nI 0) dX11_lacksAhead_2 rfl ?_
  refine pE_istore_n (lc' := [_, _, some (.int _)]) dX11_lacksAhead_3 rfl (Nat.le_of_ble_eq_true rfl) rfl rfl ?_
  exact L_X11_lacksAhead ht hH hr hS hrT hq (H 1 + 1) 0 (by omega) (by omega)
set_option maxHeartbeats 4000000 in
set_option maxRecDepth 100000 in
theorem L_X11_giveNext {l : Launch} {X : pX} {t g : Nat} {I : pHI} {J : pHJ} {Q : pQ} {B : Nat} {H T : pN} (ht : isH t) (hH : cH t H I) (hr : rH H) (hS : cS 37 T I) (hrT : rS B H T) (hq : pE l X mX11_giveNext 2 pK 73 [some (.ref 0), some (.int (oI (fstN (gvP H T) (H 1) (H 1)))), some (.int (oI (fstN (tkP H T) (H 1) (H 1)))), some (.int (nI 0 + -1))] [] pK I J (pR t g) Q) : ∀ m, m ≤ H 1 → pE l X mX11_giveNext 2 pK 14 [some (.ref 0), some (.int (oI (fstN (gvP H T) (H 1) (H 1 - m)))), some (.int (oI (fstN (tkP H T) (H 1) (H 1 - m)))), some (.int (nI m + -1))] [] pK I J (pR t g) Q := by
  obtain ⟨fHFht0, fHFht1, fHFht2, fHFht3, fHFht4, fHFht5, fHFht6, fHFht7, fHFht8, fHFht9, fHFht10, fHFht11, fHFht12, fHFht13, fHFht14, fHFht15, fHFht16, fHFht17, fHFht18, fHFht19, fHFht20, fHFht21, fHFht22, fHFht23, fHFht24, fHFht25, fHFht26⟩ := HF t g ht
  have hn8 := hr.2.1
  intro m
  induction m with
  | zero =>
    intro hm
    refine pE_iload_n dX11_giveNext_14 rfl rfl ?_
    refine pE_if_lt (tgt := 73) dX11_giveNext_15 (by decide) (fun h15 => ?_) (fun h15 => ?_)
    · exact hq
    · exact absurd (by decide : nI 0 + -1 < 0) h15
  | succ m ih =>
    intro hm
    rw [nI_dec]
    have hlb := lack_leB hr hrT (show m < 8 by omega)
    have hsl : surpN H T m ≤ 9999 := by unfold surpN; omega
    refine pE_iload_n dX11_giveNext_14 rfl rfl ?_
    refine pE_if_lt (tgt := 73) dX11_giveNext_15 (by decide) (fun h15 => ?_) (fun h15 => ?_)
    · exact absurd h15 (nI_pos (by omega))
    · refine pE_aload_n dX11_giveNext_18 rfl rfl ?_
      refine pE_getR dX11_giveNext_19 flX11_29 rfl (by first | assumption | rfl) (by first | assumption | rfl) ?_
      refine pE_aload_n dX11_giveNext_22 rfl rfl ?_
      refine pE_getR dX11_giveNext_23 flX11_43 rfl (by first | assumption | rfl) (by first | assumption | rfl) ?_
      refine pE_iload_n dX11_giveNext_26 rfl rfl ?_
      refine pE_callV (d' := 1) (as := [_, _]) dX11_giveNext_27 lkX11_273 (cwX2_surplusOf _ _) ivX2_surplusOf ⟨_, rfl, rfl⟩ (by first | assumption | rfl) rfl rfl (Nat.le_of_ble_eq_true rfl) (by decide) pKK ?_
      refine M_X2_surplusOf (H := H) (T := T) ht (Or.inr rfl) (by omega) (hH.2.2.2.2.2 m (by omega)).2.2.2.1 (hS.2.2.2.2 m (by omega)).2.2 (hS.2.2.2.2 m (by omega)).2.1 hlb.1 hlb.2.1 hlb.2.2.1 ?_
      refine pE_if_le (tgt := 35) dX11_giveNext_30 (by decide) (fun h30 => ?_) (fun h30 => ?_)
      · have g30 := nq_le0 (by omega) h30
        refine pE_aload_n dX11_giveNext_35 rfl rfl ?_
        refine pE_getR dX11_giveNext_36 flX11_29 rfl (by first | assumption | rfl) (by first | assumption | rfl) ?_
        refine pE_aload_n dX11_giveNext_39 rfl rfl ?_
        refine pE_getR dX11_giveNext_40 flX11_43 rfl (by first | assumption | rfl) (by first | assumption | rfl) ?_
        refine pE_iload_n dX11_giveNext_43 rfl rfl ?_
        refine pE_callV (d' := 1) (as := [_, _]) dX11_giveNext_44 lkX11_148 (cwX2_lackOf _ _) ivX2_lackOf ⟨_, rfl, rfl⟩ (by first | assumption | rfl) rfl rfl (Nat.le_of_ble_eq_true rfl) (by decide) pKK ?_
        refine M_X2_lackOf (H := H) (T := T) ht (Or.inr rfl) (by omega) (hH.2.2.2.2.2 m (by omega)).2.2.2.1 (hS.2.2.2.2 m (by omega)).2.2 (hS.2.2.2.2 m (by omega)).2.1 hlb.1 hlb.2.1 hlb.2.2.1 ?_
        refine pE_if_le (tgt := 67) dX11_giveNext_47 (by decide) (fun h47 => ?_) (fun h47 => ?_)
        · have g47 := nq_le0 (by omega) h47
          refine pE_iinc (c0 := -1) (lc' := [_, _, _, some (.int _)]) dX11_giveNext_67 rfl rfl rfl rfl ?_
          refine pE_goto (tgt := 14) dX11_giveNext_70 (by decide) ?_
          refine pE_cg (ih (by omega)) (by
              rw [fst_step (P := gvP H T) (by omega : m < H 1), fst_step (P := tkP H T) (by omega : m < H 1)]
              first
              | (rw [if_pos (gv_y g30), if_pos (tk_y g47 g62)]; first | done | rfl)
              | (rw [if_pos (gv_y g30), if_neg (tk_n1 g47)]; first | done | rfl)
              | (rw [if_pos (gv_y g30), if_neg (tk_n2 g62)]; first | done | rfl)
              | (rw [if_neg (gv_n g30), if_pos (tk_y g47 g62)]; first | done | rfl)
              | (rw [if_neg (gv_n g30), if_neg (tk_n1 g47)]; first | done | rfl)
              | (rw [if_neg (gv_n g30), if_neg (tk_n2 g62)]; first | done | rfl)) rfl rfl rfl rfl
        · have g47 := nq_nle0 (by omega) h47
          refine pE_aload_n dX11_giveNext_50 rfl rfl ?_
          refine pE_getR dX11_giveNext_51 flX11_43 rfl (by first | assumption | rfl) (by first | assumption | rfl) ?_
          refine pE_getR dX11_giveNext_54 flX11_142 rfl (by first | assumption | rfl) (by first | assumption | rfl) ?_
          refine pE_iload_n dX11_giveNext_57 rfl rfl ?_
          refine pE_ialoadN dX11_giveNext_58 (by first | assumption | rfl) (by first | assumption | omega) (by omega) ?_
          rw [(hS.2.2.2.2 m (by omega)).2.1]
          refine pE_sipush (v := nI 9999) dX11_giveNext_59 rfl ?_
          refine pE_icmp_ge (tgt := 67) dX11_giveNext_62 (by decide) (fun h62 => ?_) (fun h62 => ?_)
          · have g62 := nq_le (by omega) (by omega) h62
            refine pE_iinc (c0 := -1) (lc' := [_, _, _, some (.int _)]) dX11_giveNext_67 rfl rfl rfl rfl ?_
            refine pE_goto (tgt := 14) dX11_giveNext_70 (by decide) ?_
            refine pE_cg (ih (by omega)) (by
                rw [fst_step (P := gvP H T) (by omega : m < H 1), fst_step (P := tkP H T) (by omega : m < H 1)]
                first
                | (rw [if_pos (gv_y g30), if_pos (tk_y g47 g62)]; first | done | rfl)
                | (rw [if_pos (gv_y g30), if_neg (tk_n1 g47)]; first | done | rfl)
                | (rw [if_pos (gv_y g30), if_neg (tk_n2 g62)]; first | done | rfl)
                | (rw [if_neg (gv_n g30), if_pos (tk_y g47 g62)]; first | done | rfl)
                | (rw [if_neg (gv_n g30), if_neg (tk_n1 g47)]; first | done | rfl)
                | (rw [if_neg (gv_n g30), if_neg (tk_n2 g62)]; first | done | rfl)) rfl rfl rfl rfl
          · have g62 := nq_nle (by omega) (by omega) h62
            refine pE_iload_n dX11_giveNext_65 rfl rfl ?_
            refine pE_istore_n (lc' := [_, _, some (.int _), _]) dX11_giveNext_66 rfl (Nat.le_of_ble_eq_true rfl) rfl rfl ?_
            refine pE_iinc (c0 := -1) (lc' := [_, _, _, some (.int _)]) dX11_giveNext_67 rfl rfl rfl rfl ?_
            refine pE_goto (tgt := 14) dX11_giveNext_70 (by decide) ?_
            refine pE_cg (ih (by omega)) (by
                rw [fst_step (P := gvP H T) (by omega : m < H 1), fst_step (P := tkP H T) (by omega : m < H 1)]
                first
                | (rw [if_pos (gv_y g30), if_pos (tk_y g47 g62)]; first | done | rfl)
                | (rw [if_pos (gv_y g30), if_neg (tk_n1 g47)]; first | done | rfl)
                | (rw [if_pos (gv_y g30), if_neg (tk_n2 g62)]; first | done | rfl)
                | (rw [if_neg (gv_n g30), if_pos (tk_y g47 g62)]; first | done | rfl)
                | (rw [if_neg (gv_n g30), if_neg (tk_n1 g47)]; first | done | rfl)
                | (rw [if_neg (gv_n g30), if_neg (tk_n2 g62)]; first | done | rfl)) rfl rfl rfl rfl
      · have g30 := nq_nle0 (by omega) h30
        refine pE_iload_n dX11_giveNext_33 rfl rfl ?_
        refine pE_istore_n (lc' := [_, some (.int _), _, _]) dX11_giveNext_34 rfl (Nat.le_of_ble_eq_true rfl) rfl rfl ?_
        refine pE_aload_n dX11_giveNext_35 rfl rfl ?_
        refine pE_getR dX11_giveNext_36 flX11_29 rfl (by first | assumption | rfl) (by first | assumption | rfl) ?_
        refine pE_aload_n dX11_giveNext_39 rfl rfl ?_
        refine pE_getR dX11_giveNext_40 flX11_43 rfl (by first | assumption | rfl) (by first | assumption | rfl) ?_
        refine pE_iload_n dX11_giveNext_43 rfl rfl ?_
        refine pE_callV (d' := 1) (as := [_, _]) dX11_giveNext_44 lkX11_148 (cwX2_lackOf _ _) ivX2_lackOf ⟨_, rfl, rfl⟩ (by first | assumption | rfl) rfl rfl (Nat.le_of_ble_eq_true rfl) (by decide) pKK ?_
        refine M_X2_lackOf (H := H) (T := T) ht (Or.inr rfl) (by omega) (hH.2.2.2.2.2 m (by omega)).2.2.2.1 (hS.2.2.2.2 m (by omega)).2.2 (hS.2.2.2.2 m (by omega)).2.1 hlb.1 hlb.2.1 hlb.2.2.1 ?_
        refine pE_if_le (tgt := 67) dX11_giveNext_47 (by decide) (fun h47 => ?_) (fun h47 => ?_)
        · have g47 := nq_le0 (by omega) h47
          refine pE_iinc (c0 := -1) (lc' := [_, _, _, some (.int _)]) dX11_giveNext_67 rfl rfl rfl rfl ?_
          refine pE_goto (tgt := 14) dX11_giveNext_70 (by decide) ?_
          refine pE_cg (ih (by omega)) (by
              rw [fst_step (P := gvP H T) (by omega : m < H 1), fst_step (P := tkP H T) (by omega : m < H 1)]
              first
              | (rw [if_pos (gv_y g30), if_pos (tk_y g47 g62)]; first | done | rfl)
              | (rw [if_pos (gv_y g30), if_neg (tk_n1 g47)]; first | done | rfl)
              | (rw [if_pos (gv_y g30), if_neg (tk_n2 g62)]; first | done | rfl)
              | (rw [if_neg (gv_n g30), if_pos (tk_y g47 g62)]; first | done | rfl)
              | (rw [if_neg (gv_n g30), if_neg (tk_n1 g47)]; first | done | rfl)
              | (rw [if_neg (gv_n g30), if_neg (tk_n2 g62)]; first | done | rfl)) rfl rfl rfl rfl
        · have g47 := nq_nle0 (by omega) h47
          refine pE_aload_n dX11_giveNext_50 rfl rfl ?_
          refine pE_getR dX11_giveNext_51 flX11_43 rfl (by first | assumption | rfl) (by first | assumption | rfl) ?_
          refine pE_getR dX11_giveNext_54 flX11_142 rfl (by first | assumption | rfl) (by first | assumption | rfl) ?_
          refine pE_iload_n dX11_giveNext_57 rfl rfl ?_
          refine pE_ialoadN dX11_giveNext_58 (by first | assumption | rfl) (by first | assumption | omega) (by omega) ?_
          rw [(hS.2.2.2.2 m (by omega)).2.1]
          refine pE_sipush (v := nI 9999) dX11_giveNext_59 rfl ?_
          refine pE_icmp_ge (tgt := 67) dX11_giveNext_62 (by decide) (fun h62 => ?_) (fun h62 => ?_)
          · have g62 := nq_le (by omega) (by omega) h62
            refine pE_iinc (c0 := -1) (lc' := [_, _, _, some (.int _)]) dX11_giveNext_67 rfl rfl rfl rfl ?_
            refine pE_goto (tgt := 14) dX11_giveNext_70 (by decide) ?_
            refine pE_cg (ih (by omega)) (by
                rw [fst_step (P := gvP H T) (by omega : m < H 1), fst_step (P := tkP H T) (by omega : m < H 1)]
                first
                | (rw [if_pos (gv_y g30), if_pos (tk_y g47 g62)]; first | done | rfl)
                | (rw [if_pos (gv_y g30), if_neg (tk_n1 g47)]; first | done | rfl)
                | (rw [if_pos (gv_y g30), if_neg (tk_n2 g62)]; first | done | rfl)
                | (rw [if_neg (gv_n g30), if_pos (tk_y g47 g62)]; first | done | rfl)
                | (rw [if_neg (gv_n g30), if_neg (tk_n1 g47)]; first | done | rfl)
                | (rw [if_neg (gv_n g30), if_neg (tk_n2 g62)]; first | done | rfl)) rfl rfl rfl rfl
          · have g62 := nq_nle (by omega) (by omega) h62
            refine pE_iload_n dX11_giveNext_65 rfl rfl ?_
            refine pE_istore_n (lc' := [_, _, some (.int _), _]) dX11_giveNext_66 rfl (Nat.le_of_ble_eq_true rfl) rfl rfl ?_
            refine pE_iinc (c0 := -1) (lc' := [_, _, _, some (.int _)]) dX11_giveNext_67 rfl rfl rfl rfl ?_
            refine pE_goto (tgt := 14) dX11_giveNext_70 (by decide) ?_
            refine pE_cg (ih (by omega)) (by
                rw [fst_step (P := gvP H T) (by omega : m < H 1), fst_step (P := tkP H T) (by omega : m < H 1)]
                first
                | (rw [if_pos (gv_y g30), if_pos (tk_y g47 g62)]; first | done | rfl)
                | (rw [if_pos (gv_y g30), if_neg (tk_n1 g47)]; first | done | rfl)
                | (rw [if_pos (gv_y g30), if_neg (tk_n2 g62)]; first | done | rfl)
                | (rw [if_neg (gv_n g30), if_pos (tk_y g47 g62)]; first | done | rfl)
                | (rw [if_neg (gv_n g30), if_neg (tk_n1 g47)]; first | done | rfl)
                | (rw [if_neg (gv_n g30), if_neg (tk_n2 g62)]; first | done | rfl)) rfl rfl rfl rfl
set_option maxHeartbeats 4000000 in
set_option maxRecDepth 100000 in
theorem M_X11_giveNext {l : Launch} {X : pX} {t g : Nat} {I : pHI} {J : pHJ} {Q : pQ} {B : Nat} {H T : pN} (ht : isH t) (hH : cH t H I) (hr : rH H) (hS : cS 37 T I) (hrT : rS B H T) (h1 : ∀ a b, (fstN (gvP H T) (H 1) (H 1)) = some a → (fstN (tkP H T) (H 1) (H 1)) = some b → ∀ I1, sx 37 I I1 → cS 37 (givN T a b (gfN H T a b)) I1 → Q (some (.int (nI (gfN H T a b)))) I1 J (pR t g)) (h0 : ((fstN (gvP H T) (H 1) (H 1)) = none ∨ (fstN (tkP H T) (H 1) (H 1)) = none) → Q (some (.int (nI 0))) I J (pR t g)) : pM l X yX11_giveNext mX11_giveNext 2 [.ref 0] pK pK I J (pR t g) Q := by
  obtain ⟨fHFht0, fHFht1, fHFht2, fHFht3, fHFht4, fHFht5, fHFht6, fHFht7, fHFht8, fHFht9, fHFht10, fHFht11, fHFht12, fHFht13, fHFht14, fHFht15, fHFht16, fHFht17, fHFht18, fHFht19, fHFht20, fHFht21, fHFht22, fHFht23, fHFht24, fHFht25, fHFht26⟩ := HF t g ht
  have hn8 := hr.2.1
  have hn9 : H 1 < 2 ^ 31 := by omega
  refine pM_of rfl (fun h => by cases h) rfl pKM (Nat.le_of_ble_eq_true rfl) ?_
  refine pE_iconst (v := -1) dX11_giveNext_0 rfl ?_
  refine pE_istore_n (lc' := [_, some (.int _), _, _]) dX11_giveNext_1 rfl (Nat.le_of_ble_eq_true rfl) rfl rfl ?_
  refine pE_iconst (v := -1) dX11_giveNext_2 rfl ?_
  refine pE_istore_n (lc' := [_, _, some (.int _), _]) dX11_giveNext_3 rfl (Nat.le_of_ble_eq_true rfl) rfl rfl ?_
  refine pE_aload_n dX11_giveNext_4 rfl rfl ?_
  refine pE_getR dX11_giveNext_5 flX11_29 rfl (by first | assumption | rfl) (by first | assumption | rfl) ?_
  refine pE_getI dX11_giveNext_8 flX11_110 rfl (Or.inl rfl) (by first | assumption | rfl) ?_
  rw [hH.2.2.1]
  refine pE_iconst (v := nI 1) dX11_giveNext_11 rfl ?_
  refine pE_isub dX11_giveNext_12 ?_
  refine pE_istore_n (lc' := [_, _, _, some (.int _)]) dX11_giveNext_13 rfl (Nat.le_of_ble_eq_true rfl) rfl rfl ?_
  refine pE_cg (L_X11_giveNext ht hH hr hS hrT ?_ (H 1) (Nat.le_refl _)) (by rw [Nat.sub_self, Int32.sub_eq_add_neg]; rfl) rfl rfl rfl rfl
  refine pE_aload_n dX11_giveNext_73 rfl rfl ?_
  refine pE_iload_n dX11_giveNext_74 rfl rfl ?_
  refine pE_iload_n dX11_giveNext_75 rfl rfl ?_
  refine pE_callV (d' := 1) (as := [_, _]) dX11_giveNext_76 lkX11_182 (cwX11_areTwo _ _) ivX11_areTwo ⟨_, rfl, rfl⟩ (by first | assumption | rfl) rfl rfl (Nat.le_of_ble_eq_true rfl) (by decide) pKK ?_
  refine M_X11_areTwo (H := H) ht hH.2.2.1 hr.2.1 (fun a b ha e1 hb e2 hne => ?_) (fun hne => ?_)
  · have f1 := oI_eq (fun b h => by have := (fst_some (Nat.le_refl _) h).1; omega) (by omega) e1
    have f2 := oI_eq (fun b h => by have := (fst_some (Nat.le_refl _) h).1; omega) (by omega) e2
    have hl := gt_less hn8 f1 f2
    have la := lack_leB hr hrT (show a < 8 by omega)
    have lb := lack_leB hr hrT (show b < 8 by omega)
    have hsl : surpN H T a ≤ 9999 := by unfold surpN; omega
    rw [e1, e2]
    refine pE_if_ne_t (tgt := 84) dX11_giveNext_79 (by decide) nI_1n0 ?_
    refine pE_aload_n dX11_giveNext_84 rfl rfl ?_
    refine pE_getR dX11_giveNext_85 flX11_29 rfl (by first | assumption | rfl) (by first | assumption | rfl) ?_
    refine pE_aload_n dX11_giveNext_88 rfl rfl ?_
    refine pE_getR dX11_giveNext_89 flX11_43 rfl (by first | assumption | rfl) (by first | assumption | rfl) ?_
    refine pE_iload_n dX11_giveNext_92 rfl rfl ?_
    refine pE_callV (d' := 1) (as := [_, _]) dX11_giveNext_93 lkX11_273 (cwX2_surplusOf _ _) ivX2_surplusOf ⟨_, rfl, rfl⟩ (by first | assumption | rfl) rfl rfl (Nat.le_of_ble_eq_true rfl) (by decide) pKK ?_
    refine M_X2_surplusOf (H := H) (T := T) ht (Or.inr rfl) (by omega) (hH.2.2.2.2.2 a (by omega)).2.2.2.1 (hS.2.2.2.2 a (by omega)).2.2 (hS.2.2.2.2 a (by omega)).2.1 la.1 la.2.1 la.2.2.1 ?_
    refine pE_aload_n dX11_giveNext_96 rfl rfl ?_
    refine pE_getR dX11_giveNext_97 flX11_29 rfl (by first | assumption | rfl) (by first | assumption | rfl) ?_
    refine pE_aload_n dX11_giveNext_100 rfl rfl ?_
    refine pE_getR dX11_giveNext_101 flX11_43 rfl (by first | assumption | rfl) (by first | assumption | rfl) ?_
    refine pE_iload_n dX11_giveNext_104 rfl rfl ?_
    refine pE_callV (d' := 1) (as := [_, _]) dX11_giveNext_105 lkX11_148 (cwX2_lackOf _ _) ivX2_lackOf ⟨_, rfl, rfl⟩ (by first | assumption | rfl) rfl rfl (Nat.le_of_ble_eq_true rfl) (by decide) pKK ?_
    refine M_X2_lackOf (H := H) (T := T) ht (Or.inr rfl) (by omega) (hH.2.2.2.2.2 b (by omega)).2.2.2.1 (hS.2.2.2.2 b (by omega)).2.2 (hS.2.2.2.2 b (by omega)).2.1 lb.1 lb.2.1 lb.2.2.1 ?_
    refine pE_min dX11_giveNext_108 lkX11_276 (by decide) (Nat.le_of_ble_eq_true rfl) ?_
    rw [nI_min _ _ (by omega) (by omega)]
    refine pE_istore_n (lc' := [_, _, _, some (.int _)]) dX11_giveNext_111 rfl (Nat.le_of_ble_eq_true rfl) rfl rfl ?_
    refine pE_iload_n dX11_giveNext_112 rfl rfl ?_
    refine pE_sipush (v := nI 9999) dX11_giveNext_113 rfl ?_
    refine pE_aload_n dX11_giveNext_116 rfl rfl ?_
    refine pE_getR dX11_giveNext_117 flX11_43 rfl (by first | assumption | rfl) (by first | assumption | rfl) ?_
    refine pE_getR dX11_giveNext_120 flX11_142 rfl (by first | assumption | rfl) (by first | assumption | rfl) ?_
    refine pE_iload_n dX11_giveNext_123 rfl rfl ?_
    refine pE_ialoadN dX11_giveNext_124 (by first | assumption | rfl) (by first | assumption | omega) (by omega) ?_
    rw [(hS.2.2.2.2 b (by omega)).2.1]
    refine pE_isubN dX11_giveNext_125 (by omega) ?_
    refine pE_min dX11_giveNext_126 lkX11_276 (by decide) (Nat.le_of_ble_eq_true rfl) ?_
    rw [nI_min _ _ (by omega) (by omega), show min (min (surpN H T a) (lackN H T b)) (9999 - T (8 + b)) = gfN H T a b from rfl]
    refine pE_istore_n (lc' := [_, _, _, some (.int _)]) dX11_giveNext_129 rfl (Nat.le_of_ble_eq_true rfl) rfl rfl ?_
    refine pE_aload_n dX11_giveNext_130 rfl rfl ?_
    refine pE_getR dX11_giveNext_131 flX11_43 rfl (by first | assumption | rfl) (by first | assumption | rfl) ?_
    refine pE_getR dX11_giveNext_134 flX11_142 rfl (by first | assumption | rfl) (by first | assumption | rfl) ?_
    refine pE_iload_n dX11_giveNext_137 rfl rfl ?_
    refine pE_dup2 dX11_giveNext_138 ?_
    refine pE_ialoadN dX11_giveNext_139 (by first | assumption | rfl) (by first | assumption | omega) (by omega) ?_
    rw [(hS.2.2.2.2 a (by omega)).2.1]
    refine pE_iload_n dX11_giveNext_140 rfl rfl ?_
    refine pE_isubN dX11_giveNext_141 (by omega) ?_
    refine pE_iastoreN dX11_giveNext_142 (by first | assumption | rfl) (by first | assumption | omega) (by omega) ?_
    refine pE_aload_n dX11_giveNext_143 rfl rfl ?_
    refine pE_getR dX11_giveNext_144 flX11_43 rfl (by first | assumption | rfl) (by first | assumption | rfl) ?_
    refine pE_getR dX11_giveNext_147 flX11_142 rfl (by first | assumption | rfl) (by first | assumption | rfl) ?_
    refine pE_iload_n dX11_giveNext_150 rfl rfl ?_
    refine pE_dup2 dX11_giveNext_151 ?_
    refine pE_ialoadN dX11_giveNext_152 (by first | assumption | rfl) (by first | assumption | omega) (by omega) ?_
    rw [pu_o (k := a) (k' := b) (by omega) (hS.2.2.2.2 b (by omega)).2.1]
    refine pE_iload_n dX11_giveNext_153 rfl rfl ?_
    refine pE_iaddN dX11_giveNext_154 ?_
    refine pE_iastoreN dX11_giveNext_155 (by first | assumption | rfl) (by first | assumption | omega) (by omega) ?_
    refine pE_iload_n dX11_giveNext_156 rfl rfl ?_
    refine pE_iret dX11_giveNext_157 rfl rfl ?_
    refine h1 a b f1 f2 _ ((sx.rf.pu (by omega)).pu (by omega)) (CS3 (hS) hl.1 (by omega) (by omega))
  · have hno : (fstN (gvP H T) (H 1) (H 1)) = none ∨ (fstN (tkP H T) (H 1) (H 1)) = none := by
      cases f1 : (fstN (gvP H T) (H 1) (H 1)) with
      | none => exact Or.inl rfl
      | some a => cases f2 : (fstN (tkP H T) (H 1) (H 1)) with
        | none => exact Or.inr rfl
        | some b => exact absurd (hne a b (fst_some (Nat.le_refl _) f1).1 (by rw [f1]; rfl) (fst_some (Nat.le_refl _) f2).1 (by rw [f2]; rfl)) (gt_less hn8 f1 f2).1
    refine pE_if_ne_f (tgt := 84) dX11_giveNext_79 (by decide) nI_0 ?_
    refine pE_iconst (v := nI 0) dX11_giveNext_82 rfl ?_
    refine pE_iret dX11_giveNext_83 rfl rfl ?_
    exact h0 hno
set_option maxHeartbeats 4000000 in
set_option maxRecDepth 100000 in
theorem L_X11_gifts {l : Launch} {X : pX} {t g : Nat} {I : pHI} {J : pHJ} {Q : pQ} {w : Nat} {H : pN} (ht : isH t) (hH : cH t H I) (hr : rH H) (hw : w ≤ 2) : ∀ (n : Nat) (j : Nat) (tm : Nat) (sm0 : Nat) (T1 : pN) (I1 : pHI) (v5 : Option Value), 64 - j < n → (j ≤ 64) → (sx 37 I I1) → (cS 37 T1 I1) → (rS 999 H T1) → (∀ I2, sx 37 I I2 → Q (some (.int (if w = 0 then nI (gifN H (64 - j) tm sm0 T1).1 else if w = 1 then nI (gifN H (64 - j) tm sm0 T1).2.1 else nI (sumN (lackN H (gifN H (64 - j) tm sm0 T1).2.2) (H 1))))) I2 J (pR t g)) → pE l X mX11_gifts 3 pK 29 [some (.ref 0), some (.int (nI w)), some (.int (nI tm)), some (.int (nI sm0)), some (.int (nI j)), v5] [] pK I1 J (pR t g) Q := by
  obtain ⟨fHFht0, fHFht1, fHFht2, fHFht3, fHFht4, fHFht5, fHFht6, fHFht7, fHFht8, fHFht9, fHFht10, fHFht11, fHFht12, fHFht13, fHFht14, fHFht15, fHFht16, fHFht17, fHFht18, fHFht19, fHFht20, fHFht21, fHFht22, fHFht23, fHFht24, fHFht25, fHFht26⟩ := HF t g ht
  intro n
  induction n with
  | zero => intro j tm sm0 T1 I1 v5 hn; exact absurd hn (Nat.not_lt_zero _)
  | succ n ih =>
    intro j tm sm0 T1 I1 v5 hn hj hx hT1 hrT1 hq
    have hn8 := hr.2.1
    have hH1 := hH.sx ht (Or.inr rfl) hx
    refine pE_iload dX11_gifts_29 rfl ?_
    refine pE_bipush (v := nI 64) dX11_gifts_31 rfl ?_
    refine pE_icmp_ge (tgt := 64) dX11_gifts_33 (by decide) (fun h33 => ?_) (fun h33 => ?_)
    · have g33 := nq_le (by omega) (by omega) h33
      have e9 : gifN H (64 - j) tm sm0 T1 = (tm, sm0, T1) := by rw [show 64 - j = 0 by omega]; rfl
      rw [e9] at hq
      refine pE_iload_n dX11_gifts_64 rfl rfl ?_
      refine pE_if_ne (tgt := 70) dX11_gifts_65 (by decide) (fun h65 => ?_) (fun h65 => ?_)
      · have g65 := nq_ne0 (by omega) h65
        refine pE_iload_n dX11_gifts_70 rfl rfl ?_
        refine pE_iconst (v := nI 1) dX11_gifts_71 rfl ?_
        refine pE_icmp_ne (tgt := 79) dX11_gifts_72 (by decide) (fun h72 => ?_) (fun h72 => ?_)
        · have g72 := nq_ne (by omega) (by omega) h72
          refine pE_aload_n dX11_gifts_79 rfl rfl ?_
          refine pE_callV (d' := 2) (as := []) dX11_gifts_80 lkX11_270 (cwX11_lacksAhead _ _) ivX11_lacksAhead ⟨_, rfl, rfl⟩ (by first | assumption | rfl) rfl rfl (Nat.le_of_ble_eq_true rfl) (by decide) pKK ?_
          refine M_X11_lacksAhead ht hH1 hr hT1 hrT1 ?_
          refine pE_iret dX11_gifts_83 rfl rfl ?_
          have h9 := hq _ hx
          first
          | (rw [if_neg (by omega), if_pos (by omega)] at h9; exact h9)
          | (rw [if_neg (by omega), if_neg (by omega)] at h9; exact h9)
        · have g72 := nq_eq (by omega) (by omega) h72
          refine pE_iload_n dX11_gifts_75 rfl rfl ?_
          refine pE_goto (tgt := 83) dX11_gifts_76 (by decide) ?_
          refine pE_iret dX11_gifts_83 rfl rfl ?_
          have h9 := hq _ hx
          first
          | (rw [if_neg (by omega), if_pos (by omega)] at h9; exact h9)
          | (rw [if_neg (by omega), if_neg (by omega)] at h9; exact h9)
      · have g65 := nq_eq0 (by omega) h65
        refine pE_iload_n dX11_gifts_68 rfl rfl ?_
        refine pE_iret dX11_gifts_69 rfl rfl ?_
        have h9 := hq _ hx
        rw [if_pos (by omega)] at h9
        exact h9
    · have g33 := nq_nle (by omega) (by omega) h33
      refine pE_aload_n dX11_gifts_36 rfl rfl ?_
      refine pE_callV (d' := 2) (as := []) dX11_gifts_37 lkX11_267 (cwX11_giveNext _ _) ivX11_giveNext ⟨_, rfl, rfl⟩ (by first | assumption | rfl) rfl rfl (Nat.le_of_ble_eq_true rfl) (by decide) pKK ?_
      refine M_X11_giveNext ht hH1 hr hT1 hrT1 (fun a b f1 f2 I2 hx2 hT2 => ?_) (fun hno => ?_)
      · have hl := gt_less hn8 f1 f2
        refine pE_istore (lc' := [_, _, _, _, _, some (.int _)]) dX11_gifts_40 (Nat.le_of_ble_eq_true rfl) rfl rfl ?_
        refine pE_iload dX11_gifts_42 rfl ?_
        refine pE_if_gt (tgt := 50) dX11_gifts_44 (by decide) (fun h44 => ?_) (fun h44 => ?_)
        · have g44 := nq_gt0 (by omega) h44
          refine pE_iincN (c0 := 1) (lc' := [_, _, some (.int _), _, _, _]) dX11_gifts_50 rfl rfl rfl rfl ?_
          refine pE_iload_n dX11_gifts_53 rfl rfl ?_
          refine pE_iload dX11_gifts_54 rfl ?_
          refine pE_iaddN dX11_gifts_56 ?_
          refine pE_istore_n (lc' := [_, _, _, some (.int _), _, _]) dX11_gifts_57 rfl (Nat.le_of_ble_eq_true rfl) rfl rfl ?_
          refine pE_iincN (c0 := 1) (lc' := [_, _, _, _, some (.int _), _]) dX11_gifts_58 rfl rfl rfl rfl ?_
          refine pE_goto (tgt := 29) dX11_gifts_61 (by decide) ?_
          refine ih (j + 1) _ _ _ I2 _ (by omega) (by omega) (hx.tr hx2) hT2 (rS_giv hrT1 hl.1 (by omega) (by omega) hl.2.2.2.2.2.1) (fun I3 a3 => ?_)
          have h9 := hq I3 a3
          rw [gif_some (by omega) f1 f2] at h9
          exact h9
        · have g44 := nq_ngt0 (by omega) h44
          omega
      · have e9 := gif_none (t := tm) (s := sm0) (64 - j) hno
        rw [e9] at hq
        refine pE_istore (lc' := [_, _, _, _, _, some (.int _)]) dX11_gifts_40 (Nat.le_of_ble_eq_true rfl) rfl rfl ?_
        refine pE_iload dX11_gifts_42 rfl ?_
        refine pE_if_gt (tgt := 50) dX11_gifts_44 (by decide) (fun h44 => ?_) (fun h44 => ?_)
        · have g44 := nq_gt0 (by omega) h44
          omega
        · have g44 := nq_ngt0 (by omega) h44
          refine pE_goto (tgt := 64) dX11_gifts_47 (by decide) ?_
          refine pE_iload_n dX11_gifts_64 rfl rfl ?_
          refine pE_if_ne (tgt := 70) dX11_gifts_65 (by decide) (fun h65 => ?_) (fun h65 => ?_)
          · have g65 := nq_ne0 (by omega) h65
            refine pE_iload_n dX11_gifts_70 rfl rfl ?_
            refine pE_iconst (v := nI 1) dX11_gifts_71 rfl ?_
            refine pE_icmp_ne (tgt := 79) dX11_gifts_72 (by decide) (fun h72 => ?_) (fun h72 => ?_)
            · have g72 := nq_ne (by omega) (by omega) h72
              refine pE_aload_n dX11_gifts_79 rfl rfl ?_
              refine pE_callV (d' := 2) (as := []) dX11_gifts_80 lkX11_270 (cwX11_lacksAhead _ _) ivX11_lacksAhead ⟨_, rfl, rfl⟩ (by first | assumption | rfl) rfl rfl (Nat.le_of_ble_eq_true rfl) (by decide) pKK ?_
              refine M_X11_lacksAhead ht hH1 hr hT1 hrT1 ?_
              refine pE_iret dX11_gifts_83 rfl rfl ?_
              have h9 := hq _ hx
              first
              | (rw [if_neg (by omega), if_pos (by omega)] at h9; exact h9)
              | (rw [if_neg (by omega), if_neg (by omega)] at h9; exact h9)
            · have g72 := nq_eq (by omega) (by omega) h72
              refine pE_iload_n dX11_gifts_75 rfl rfl ?_
              refine pE_goto (tgt := 83) dX11_gifts_76 (by decide) ?_
              refine pE_iret dX11_gifts_83 rfl rfl ?_
              have h9 := hq _ hx
              first
              | (rw [if_neg (by omega), if_pos (by omega)] at h9; exact h9)
              | (rw [if_neg (by omega), if_neg (by omega)] at h9; exact h9)
          · have g65 := nq_eq0 (by omega) h65
            refine pE_iload_n dX11_gifts_68 rfl rfl ?_
            refine pE_iret dX11_gifts_69 rfl rfl ?_
            have h9 := hq _ hx
            rw [if_pos (by omega)] at h9
            exact h9
set_option maxHeartbeats 4000000 in
set_option maxRecDepth 100000 in
theorem M_X11_gifts {l : Launch} {X : pX} {t g : Nat} {I : pHI} {J : pHJ} {Q : pQ} {x : Int32} {H T : pN} (ht : isH t) (hH : cH t H I) (hr : rH H) (hS : cS 33 T I) (hrT : rS 999 H T) (h1 : ∀ w, w ≤ 2 → x = nI w → ∀ I1, sx 37 I I1 → Q (some (.int (if w = 0 then nI (gifN H 64 0 0 T).1 else if w = 1 then nI (gifN H 64 0 0 T).2.1 else nI (sumN (lackN H (gifN H 64 0 0 T).2.2) (H 1))))) I1 J (pR t g)) (h0 : (∀ w, w ≤ 2 → x ≠ nI w) → Q (some (.int (-1))) I J (pR t g)) : pM l X yX11_gifts mX11_gifts 3 [.ref 0, .int x] pK pK I J (pR t g) Q := by
  obtain ⟨fHFht0, fHFht1, fHFht2, fHFht3, fHFht4, fHFht5, fHFht6, fHFht7, fHFht8, fHFht9, fHFht10, fHFht11, fHFht12, fHFht13, fHFht14, fHFht15, fHFht16, fHFht17, fHFht18, fHFht19, fHFht20, fHFht21, fHFht22, fHFht23, fHFht24, fHFht25, fHFht26⟩ := HF t g ht
  refine pM_of rfl (fun h => by cases h) rfl pKM (Nat.le_of_ble_eq_true rfl) ?_
  rcases nI_or x with hx | ⟨w, hw, rfl⟩
  · refine pE_iload_n dX11_gifts_0 rfl rfl ?_
    refine pE_if_lt (tgt := 9) dX11_gifts_1 (by decide) (fun h1' => ?_) (fun h1' => ?_)
    · refine pE_iconst (v := -1) dX11_gifts_9 rfl ?_
      refine pE_iret dX11_gifts_10 rfl rfl ?_
      exact h0 (fun s hs e => by rw [e] at hx; exact absurd hx (nI_pos (by omega)))
    · exact absurd hx h1'
  · refine pE_iload_n dX11_gifts_0 rfl rfl ?_
    refine pE_if_lt (tgt := 9) dX11_gifts_1 (by decide) (fun h1' => ?_) (fun h1' => ?_)
    · exact absurd h1' (nI_pos (by omega))
    · refine pE_iload_n dX11_gifts_4 rfl rfl ?_
      refine pE_iconst (v := nI 2) dX11_gifts_5 rfl ?_
      refine pE_icmp_le (tgt := 11) dX11_gifts_6 (by decide) (fun h6 => ?_) (fun h6 => ?_)
      · have g6 := nq_le (by omega) (by omega) h6
        refine pE_aload_n dX11_gifts_11 rfl rfl ?_
        refine pE_getR dX11_gifts_12 flX11_43 rfl (by first | assumption | rfl) (by first | assumption | rfl) ?_
        refine pE_aload_n dX11_gifts_15 rfl rfl ?_
        refine pE_getR dX11_gifts_16 flX11_39 rfl (by first | assumption | rfl) (by first | assumption | rfl) ?_
        refine pE_callV (d' := 1) (as := [_]) dX11_gifts_19 lkX11_232 (cwX9_copyFrom _ _) ivX9_copyFrom ⟨_, rfl, rfl⟩ (by first | assumption | rfl) rfl rfl (Nat.le_of_ble_eq_true rfl) (by decide) pKK ?_
        refine M_X9_copyFrom hS (fun I1 hx hT1 => ?_)
        refine pE_iconst (v := nI 0) dX11_gifts_22 rfl ?_
        refine pE_istore_n (lc' := [_, _, some (.int _), _, _, _]) dX11_gifts_23 rfl (Nat.le_of_ble_eq_true rfl) rfl rfl ?_
        refine pE_iconst (v := nI 0) dX11_gifts_24 rfl ?_
        refine pE_istore_n (lc' := [_, _, _, some (.int _), _, _]) dX11_gifts_25 rfl (Nat.le_of_ble_eq_true rfl) rfl rfl ?_
        refine pE_iconst (v := nI 0) dX11_gifts_26 rfl ?_
        refine pE_istore (lc' := [_, _, _, _, some (.int _), _]) dX11_gifts_27 (Nat.le_of_ble_eq_true rfl) rfl rfl ?_
        exact L_X11_gifts ht (hH.sx ht (Or.inr rfl) hx) hr (by omega) 65 0 0 0 T I1 _ (by omega) (by omega) sx.rf hT1 hrT (fun I2 a => h1 w (by omega) rfl I2 (hx.tr a))
      · have g6 := nq_nle (by omega) (by omega) h6
        refine pE_iconst (v := -1) dX11_gifts_9 rfl ?_
        refine pE_iret dX11_gifts_10 rfl rfl ?_
        exact h0 (fun s hs e => by have := nq_eq (by omega) (by omega) e; omega)
set_option maxHeartbeats 4000000 in
set_option maxRecDepth 100000 in
theorem L_X12_giver {l : Launch} {X : pX} {t g : Nat} {I : pHI} {J : pHJ} {Q : pQ} {B : Nat} {H T : pN} (hH : mH H I) (hr : rH H) (hS : mS 91 T I) (hrT : rS B H T) (hq : Q (some (.int (oI (fstN (gvP H T) (H 1) (H 1))))) I J (pR t g)) : ∀ (n : Nat) (j : Nat), H 1 - j < n → (j ≤ H 1) → (fstN (gvP H T) (H 1) (H 1) = fstN (gvP H T) (H 1) (H 1 - j)) → pE l X mX12_giver 2 pK 2 [some (.ref 67), some (.int (nI j))] [] pK I J (pR t g) Q := by
  intro n
  induction n with
  | zero => intro j hn; exact absurd hn (Nat.not_lt_zero _)
  | succ n ih =>
    intro j hn hj he
    have hn8 := hr.2.1
    refine pE_iload_n dX12_giver_2 rfl rfl ?_
    refine pE_aload_n dX12_giver_3 rfl rfl ?_
    refine pE_getI dX12_giver_4 flX12_350 rfl (Or.inl rfl) (by first | assumption | rfl) ?_
    rw [hH.2.1]
    refine pE_icmp_ge (tgt := 35) dX12_giver_7 (by decide) (fun h7 => ?_) (fun h7 => ?_)
    · have g7 := nq_le (by omega) (by omega) h7
      refine pE_iconst (v := -1) dX12_giver_35 rfl ?_
      refine pE_iret dX12_giver_36 rfl rfl ?_
      obtain rfl : j = H 1 := by omega
      rw [he, Nat.sub_self] at hq
      exact hq
    · have g7 := nq_nle (by omega) (by omega) h7
      have hlb := lack_leB hr hrT (show j < 8 by omega)
      have hst := fst_step (P := gvP H T) (show j < H 1 by omega)
      refine pE_aload_n dX12_giver_10 rfl rfl ?_
      refine pE_getR dX12_giver_11 flX12_88 rfl (by first | assumption | rfl) (by first | assumption | rfl) ?_
      refine pE_bipush (v := nI 8) dX12_giver_14 rfl ?_
      refine pE_iload_n dX12_giver_16 rfl rfl ?_
      refine pE_iaddN dX12_giver_17 ?_
      refine pE_ialoadN dX12_giver_18 (by first | assumption | rfl) (by first | assumption | omega) (by omega) ?_
      rw [hS (8 + j) (by omega)]
      refine pE_aload_n dX12_giver_19 rfl rfl ?_
      refine pE_iload_n dX12_giver_20 rfl rfl ?_
      refine pE_callV (d' := 0) (as := [_]) dX12_giver_21 lkX12_372 (cwX12_dueOf _ _) ivX12_dueOf ⟨_, rfl, rfl⟩ (by first | assumption | rfl) rfl rfl (Nat.le_of_ble_eq_true rfl) (by decide) pKK ?_
      refine M_X12_dueOf (H := H) (T := T) (hH.2.2.2 j (by omega)).2.2.2.1 (hS (16 + j) (by omega)) (by omega) ?_
      refine pE_icmp_le (tgt := 29) dX12_giver_24 (by decide) (fun h24 => ?_) (fun h24 => ?_)
      · have g24 := nq_le (by omega) (by omega) h24
        refine pE_iincN (c0 := 1) (lc' := [_, some (.int _)]) dX12_giver_29 rfl rfl rfl rfl ?_
        refine pE_goto (tgt := 2) dX12_giver_32 (by decide) ?_
        exact ih (j + 1) (by omega) (by omega) (by rw [he, hst, if_neg (gv_n2 g24)])
      · have g24 := nq_nle (by omega) (by omega) h24
        refine pE_iload_n dX12_giver_27 rfl rfl ?_
        refine pE_iret dX12_giver_28 rfl rfl ?_
        rw [he, hst, if_pos (gv_y2 g24)] at hq
        exact hq
set_option maxHeartbeats 4000000 in
set_option maxRecDepth 100000 in
theorem M_X12_giver {l : Launch} {X : pX} {t g : Nat} {I : pHI} {J : pHJ} {Q : pQ} {B : Nat} {H T : pN} (hH : mH H I) (hr : rH H) (hS : mS 91 T I) (hrT : rS B H T) (hq : Q (some (.int (oI (fstN (gvP H T) (H 1) (H 1))))) I J (pR t g)) : pM l X yX12_giver mX12_giver 2 [.ref 67] pK pK I J (pR t g) Q := by
  refine pM_of rfl (fun h => by cases h) rfl pKM (Nat.le_of_ble_eq_true rfl) ?_
  refine pE_iconst (v := nI 0) dX12_giver_0 rfl ?_
  refine pE_istore_n (lc' := [_, some (.int _)]) dX12_giver_1 rfl (Nat.le_of_ble_eq_true rfl) rfl rfl ?_
  exact L_X12_giver hH hr hS hrT hq (H 1 + 1) 0 (by omega) (by omega) rfl
set_option maxHeartbeats 4000000 in
set_option maxRecDepth 100000 in
theorem L_X12_taker {l : Launch} {X : pX} {t g : Nat} {I : pHI} {J : pHJ} {Q : pQ} {B : Nat} {H T : pN} (hH : mH H I) (hr : rH H) (hS : mS 91 T I) (hrT : rS B H T) (hq : Q (some (.int (oI (fstN (tkP H T) (H 1) (H 1))))) I J (pR t g)) : ∀ (n : Nat) (j : Nat), H 1 - j < n → (j ≤ H 1) → (fstN (tkP H T) (H 1) (H 1) = fstN (tkP H T) (H 1) (H 1 - j)) → pE l X mX12_taker 2 pK 2 [some (.ref 67), some (.int (nI j))] [] pK I J (pR t g) Q := by
  intro n
  induction n with
  | zero => intro j hn; exact absurd hn (Nat.not_lt_zero _)
  | succ n ih =>
    intro j hn hj he
    have hn8 := hr.2.1
    refine pE_iload_n dX12_taker_2 rfl rfl ?_
    refine pE_aload_n dX12_taker_3 rfl rfl ?_
    refine pE_getI dX12_taker_4 flX12_350 rfl (Or.inl rfl) (by first | assumption | rfl) ?_
    rw [hH.2.1]
    refine pE_icmp_ge (tgt := 41) dX12_taker_7 (by decide) (fun h7 => ?_) (fun h7 => ?_)
    · have g7 := nq_le (by omega) (by omega) h7
      refine pE_iconst (v := -1) dX12_taker_41 rfl ?_
      refine pE_iret dX12_taker_42 rfl rfl ?_
      obtain rfl : j = H 1 := by omega
      rw [he, Nat.sub_self] at hq
      exact hq
    · have g7 := nq_nle (by omega) (by omega) h7
      have hlb := lack_leB hr hrT (show j < 8 by omega)
      have hst := fst_step (P := tkP H T) (show j < H 1 by omega)
      refine pE_aload_n dX12_taker_10 rfl rfl ?_
      refine pE_iload_n dX12_taker_11 rfl rfl ?_
      refine pE_callV (d' := 1) (as := [_]) dX12_taker_12 lkX12_397 (cwX12_lackOf _ _) ivX12_lackOf ⟨_, rfl, rfl⟩ (by first | assumption | rfl) rfl rfl (Nat.le_of_ble_eq_true rfl) (by decide) pKK ?_
      refine M_X12_lackOf (H := H) (T := T) (hH.2.2.2 j (by omega)).2.2.2.1 (hS (16 + j) (by omega)) (hS (8 + j) (by omega)) (by omega) hlb.1 hlb.2.1 hlb.2.2.1 ?_
      refine pE_if_le (tgt := 35) dX12_taker_15 (by decide) (fun h15 => ?_) (fun h15 => ?_)
      · have g15 := nq_le0 (by omega) h15
        refine pE_iincN (c0 := 1) (lc' := [_, some (.int _)]) dX12_taker_35 rfl rfl rfl rfl ?_
        refine pE_goto (tgt := 2) dX12_taker_38 (by decide) ?_
        exact ih (j + 1) (by omega) (by omega) (by rw [he, hst, if_neg (by first | exact tk_n1 g15 | exact tk_n2 g30)])
      · have g15 := nq_nle0 (by omega) h15
        refine pE_aload_n dX12_taker_18 rfl rfl ?_
        refine pE_getR dX12_taker_19 flX12_88 rfl (by first | assumption | rfl) (by first | assumption | rfl) ?_
        refine pE_bipush (v := nI 8) dX12_taker_22 rfl ?_
        refine pE_iload_n dX12_taker_24 rfl rfl ?_
        refine pE_iaddN dX12_taker_25 ?_
        refine pE_ialoadN dX12_taker_26 (by first | assumption | rfl) (by first | assumption | omega) (by omega) ?_
        rw [hS (8 + j) (by omega)]
        refine pE_sipush (v := nI 9999) dX12_taker_27 rfl ?_
        refine pE_icmp_ge (tgt := 35) dX12_taker_30 (by decide) (fun h30 => ?_) (fun h30 => ?_)
        · have g30 := nq_le (by omega) (by omega) h30
          refine pE_iincN (c0 := 1) (lc' := [_, some (.int _)]) dX12_taker_35 rfl rfl rfl rfl ?_
          refine pE_goto (tgt := 2) dX12_taker_38 (by decide) ?_
          exact ih (j + 1) (by omega) (by omega) (by rw [he, hst, if_neg (by first | exact tk_n1 g15 | exact tk_n2 g30)])
        · have g30 := nq_nle (by omega) (by omega) h30
          refine pE_iload_n dX12_taker_33 rfl rfl ?_
          refine pE_iret dX12_taker_34 rfl rfl ?_
          rw [he, hst, if_pos (tk_y g15 g30)] at hq
          exact hq
set_option maxHeartbeats 4000000 in
set_option maxRecDepth 100000 in
theorem M_X12_taker {l : Launch} {X : pX} {t g : Nat} {I : pHI} {J : pHJ} {Q : pQ} {B : Nat} {H T : pN} (hH : mH H I) (hr : rH H) (hS : mS 91 T I) (hrT : rS B H T) (hq : Q (some (.int (oI (fstN (tkP H T) (H 1) (H 1))))) I J (pR t g)) : pM l X yX12_taker mX12_taker 2 [.ref 67] pK pK I J (pR t g) Q := by
  refine pM_of rfl (fun h => by cases h) rfl pKM (Nat.le_of_ble_eq_true rfl) ?_
  refine pE_iconst (v := nI 0) dX12_taker_0 rfl ?_
  refine pE_istore_n (lc' := [_, some (.int _)]) dX12_taker_1 rfl (Nat.le_of_ble_eq_true rfl) rfl rfl ?_
  exact L_X12_taker hH hr hS hrT hq (H 1 + 1) 0 (by omega) (by omega) rfl
set_option maxHeartbeats 4000000 in
set_option maxRecDepth 100000 in
theorem L_X12_giftsEnd {l : Launch} {X : pX} {t g : Nat} {I : pHI} {J : pHJ} {Q : pQ} {B w tm sm0 : Nat} {H T : pN} {v6 : Option Value} (hH : mH H I) (hr : rH H) (hS : mS 91 T I) (hrT : rS B H T) (hw : w ≤ 2) (hq : Q (some (.int (if w = 0 then nI tm else if w = 1 then nI sm0 else nI (sumN (lackN H T) (H 1))))) I J (pR t g)) : ∀ (n j : Nat), H 1 - j < n → j ≤ H 1 → pE l X mX12_gifts 3 pK 165 [some (.ref 67), some (.int (nI w)), some (.int (nI tm)), some (.int (nI sm0)), some (.int (nI (sumN (lackN H T) j))), some (.int (nI j)), v6] [] pK I J (pR t g) Q := by
  intro n
  induction n with
  | zero => intro j hn hj; exact absurd hn (Nat.not_lt_zero _)
  | succ n ih =>
    intro j hn hj
    have hn8 := hr.2.1
    refine pE_iload dX12_gifts_165 rfl ?_
    refine pE_aload_n dX12_gifts_167 rfl rfl ?_
    refine pE_getI dX12_gifts_168 flX12_350 rfl (Or.inl rfl) (by first | assumption | rfl) ?_
    rw [hH.2.1]
    refine pE_icmp_ge (tgt := 191) dX12_gifts_171 (by decide) (fun h171 => ?_) (fun h171 => ?_)
    · have g171 := nq_le (by omega) (by omega) h171
      refine pE_iload_n dX12_gifts_191 rfl rfl ?_
      refine pE_if_ne (tgt := 199) dX12_gifts_192 (by decide) (fun h192 => ?_) (fun h192 => ?_)
      · have g192 := nq_ne0 (by omega) h192
        refine pE_iload_n dX12_gifts_199 rfl rfl ?_
        refine pE_iconst (v := nI 1) dX12_gifts_200 rfl ?_
        refine pE_icmp_ne (tgt := 208) dX12_gifts_201 (by decide) (fun h201 => ?_) (fun h201 => ?_)
        · have g201 := nq_ne (by omega) (by omega) h201
          refine pE_iload dX12_gifts_208 rfl ?_
          refine pE_iret dX12_gifts_210 rfl rfl ?_
          obtain rfl : j = H 1 := by omega
          first
          | (rw [if_pos (by omega)] at hq; exact hq)
          | (rw [if_neg (by omega), if_pos (by omega)] at hq; exact hq)
          | (rw [if_neg (by omega), if_neg (by omega)] at hq; exact hq)
        · have g201 := nq_eq (by omega) (by omega) h201
          refine pE_iload_n dX12_gifts_204 rfl rfl ?_
          refine pE_goto (tgt := 210) dX12_gifts_205 (by decide) ?_
          refine pE_iret dX12_gifts_210 rfl rfl ?_
          obtain rfl : j = H 1 := by omega
          first
          | (rw [if_pos (by omega)] at hq; exact hq)
          | (rw [if_neg (by omega), if_pos (by omega)] at hq; exact hq)
          | (rw [if_neg (by omega), if_neg (by omega)] at hq; exact hq)
      · have g192 := nq_eq0 (by omega) h192
        refine pE_iload_n dX12_gifts_195 rfl rfl ?_
        refine pE_goto (tgt := 210) dX12_gifts_196 (by decide) ?_
        refine pE_iret dX12_gifts_210 rfl rfl ?_
        obtain rfl : j = H 1 := by omega
        first
        | (rw [if_pos (by omega)] at hq; exact hq)
        | (rw [if_neg (by omega), if_pos (by omega)] at hq; exact hq)
        | (rw [if_neg (by omega), if_neg (by omega)] at hq; exact hq)
    · have g171 := nq_nle (by omega) (by omega) h171
      have hlb := lack_leB hr hrT (show j < 8 by omega)
      refine pE_iload dX12_gifts_174 rfl ?_
      refine pE_aload_n dX12_gifts_176 rfl rfl ?_
      refine pE_iload dX12_gifts_177 rfl ?_
      refine pE_callV (d' := 1) (as := [_]) dX12_gifts_179 lkX12_397 (cwX12_lackOf _ _) ivX12_lackOf ⟨_, rfl, rfl⟩ (by first | assumption | rfl) rfl rfl (Nat.le_of_ble_eq_true rfl) (by decide) pKK ?_
      refine M_X12_lackOf (H := H) (T := T) (hH.2.2.2 j (by omega)).2.2.2.1 (hS (16 + j) (by omega)) (hS (8 + j) (by omega)) (by omega) hlb.1 hlb.2.1 hlb.2.2.1 ?_
      refine pE_iaddN dX12_gifts_182 ?_
      refine pE_istore (lc' := [_, _, _, _, some (.int _), _, _]) dX12_gifts_183 (Nat.le_of_ble_eq_true rfl) rfl rfl ?_
      refine pE_iincN (c0 := 1) (lc' := [_, _, _, _, _, some (.int _), _]) dX12_gifts_185 rfl rfl rfl rfl ?_
      refine pE_goto (tgt := 165) dX12_gifts_188 (by decide) ?_
      exact ih (j + 1) (by omega) (by omega)
set_option maxHeartbeats 4000000 in
set_option maxRecDepth 100000 in
theorem L_X12_gifts {l : Launch} {X : pX} {t g : Nat} {I : pHI} {J : pHJ} {Q : pQ} {w : Nat} {H : pN} (hH : mH H I) (hr : rH H) (hw : w ≤ 2) : ∀ (n k tm sm0 : Nat) (T1 : pN) (I1 : pHI) (v4 v5 v6 : Option Value), k < n → gtN H T1 ≤ k → sm I I1 → mS 91 T1 I1 → rS 999 H T1 → (∀ I2, sm I I2 → Q (some (.int (if w = 0 then nI (gifN H k tm sm0 T1).1 else if w = 1 then nI (gifN H k tm sm0 T1).2.1 else nI (sumN (lackN H (gifN H k tm sm0 T1).2.2) (H 1))))) I2 J (pR t g)) → pE l X mX12_gifts 3 pK 19 [some (.ref 67), some (.int (nI w)), some (.int (nI tm)), some (.int (nI sm0)), v4, v5, v6] [] pK I1 J (pR t g) Q := by
  intro n
  induction n with
  | zero => intro k tm sm0 T1 I1 v4 v5 v6 hn; exact absurd hn (Nat.not_lt_zero _)
  | succ n ih =>
    intro k tm sm0 T1 I1 v4 v5 v6 hn hk hx hT1 hrT1 hq
    have hn8 := hr.2.1
    have hH1 := hH.sm hx
    cases f1 : fstN (gvP H T1) (H 1) (H 1) with
    | none =>
      have hno : fstN (gvP H T1) (H 1) (H 1) = none ∨ fstN (tkP H T1) (H 1) (H 1) = none := Or.inl f1
      refine pE_aload_n dX12_gifts_19 rfl rfl ?_
      refine pE_callV (d' := 2) (as := []) dX12_gifts_20 lkX12_448 (cwX12_giver _ _) ivX12_giver ⟨_, rfl, rfl⟩ (by first | assumption | rfl) rfl rfl (Nat.le_of_ble_eq_true rfl) (by decide) pKK ?_
      refine M_X12_giver hH1 hr hT1 hrT1 ?_
      rw [f1, show oI none = (-1 : Int32) from rfl]
      refine pE_if_lt (tgt := 159) dX12_gifts_23 (by decide) (fun h23 => ?_) (fun h23 => ?_)
      · refine pE_iconst (v := nI 0) dX12_gifts_159 rfl ?_
        refine pE_istore (lc' := [_, _, _, _, some (.int _), _, _]) dX12_gifts_160 (Nat.le_of_ble_eq_true rfl) rfl rfl ?_
        refine pE_iconst (v := nI 0) dX12_gifts_162 rfl ?_
        refine pE_istore (lc' := [_, _, _, _, _, some (.int _), _]) dX12_gifts_163 (Nat.le_of_ble_eq_true rfl) rfl rfl ?_
        refine L_X12_giftsEnd (T := T1) hH1 hr hT1 hrT1 hw ?_ (H 1 + 1) 0 (by omega) (by omega)
        have h9 := hq _ hx
        rw [gif_none _ hno] at h9
        exact h9
      · exact absurd m1_lt0 h23
    | some a =>
      cases f2 : fstN (tkP H T1) (H 1) (H 1) with
      | none =>
        have hno : fstN (gvP H T1) (H 1) (H 1) = none ∨ fstN (tkP H T1) (H 1) (H 1) = none := Or.inr f2
        have ha := (fst_some (Nat.le_refl _) f1).1
        refine pE_aload_n dX12_gifts_19 rfl rfl ?_
        refine pE_callV (d' := 2) (as := []) dX12_gifts_20 lkX12_448 (cwX12_giver _ _) ivX12_giver ⟨_, rfl, rfl⟩ (by first | assumption | rfl) rfl rfl (Nat.le_of_ble_eq_true rfl) (by decide) pKK ?_
        refine M_X12_giver hH1 hr hT1 hrT1 ?_
        rw [f1, show oI (some a) = nI a from rfl]
        refine pE_if_lt (tgt := 159) dX12_gifts_23 (by decide) (fun h23 => ?_) (fun h23 => ?_)
        · exact absurd h23 (nI_pos (by omega))
        · refine pE_aload_n dX12_gifts_26 rfl rfl ?_
          refine pE_callV (d' := 2) (as := []) dX12_gifts_27 lkX12_451 (cwX12_taker _ _) ivX12_taker ⟨_, rfl, rfl⟩ (by first | assumption | rfl) rfl rfl (Nat.le_of_ble_eq_true rfl) (by decide) pKK ?_
          refine M_X12_taker hH1 hr hT1 hrT1 ?_
          rw [f2, show oI none = (-1 : Int32) from rfl]
          refine pE_if_lt (tgt := 159) dX12_gifts_30 (by decide) (fun h30 => ?_) (fun h30 => ?_)
          · refine pE_iconst (v := nI 0) dX12_gifts_159 rfl ?_
            refine pE_istore (lc' := [_, _, _, _, some (.int _), _, _]) dX12_gifts_160 (Nat.le_of_ble_eq_true rfl) rfl rfl ?_
            refine pE_iconst (v := nI 0) dX12_gifts_162 rfl ?_
            refine pE_istore (lc' := [_, _, _, _, _, some (.int _), _]) dX12_gifts_163 (Nat.le_of_ble_eq_true rfl) rfl rfl ?_
            refine L_X12_giftsEnd (T := T1) hH1 hr hT1 hrT1 hw ?_ (H 1 + 1) 0 (by omega) (by omega)
            have h9 := hq _ hx
            rw [gif_none _ hno] at h9
            exact h9
          · exact absurd m1_lt0 h30
      | some b =>
        have hl := gt_less hn8 f1 f2
        have la := lack_leB hr hrT1 (show a < 8 by omega)
        have lb := lack_leB hr hrT1 (show b < 8 by omega)
        have hsv : T1 (8 + a) - (H (32 + a) + T1 (16 + a)) = surpN H T1 a := by unfold surpN; omega
        have hsl : surpN H T1 a ≤ 9999 := by unfold surpN; omega
        have hsp : 0 < surpN H T1 a := of_decide_eq_true (fst_some (Nat.le_refl _) f1).2
        refine pE_aload_n dX12_gifts_19 rfl rfl ?_
        refine pE_callV (d' := 2) (as := []) dX12_gifts_20 lkX12_448 (cwX12_giver _ _) ivX12_giver ⟨_, rfl, rfl⟩ (by first | assumption | rfl) rfl rfl (Nat.le_of_ble_eq_true rfl) (by decide) pKK ?_
        refine M_X12_giver hH1 hr hT1 hrT1 ?_
        rw [f1, show oI (some a) = nI a from rfl]
        refine pE_if_lt (tgt := 159) dX12_gifts_23 (by decide) (fun h23 => ?_) (fun h23 => ?_)
        · exact absurd h23 (nI_pos (by omega))
        · refine pE_aload_n dX12_gifts_26 rfl rfl ?_
          refine pE_callV (d' := 2) (as := []) dX12_gifts_27 lkX12_451 (cwX12_taker _ _) ivX12_taker ⟨_, rfl, rfl⟩ (by first | assumption | rfl) rfl rfl (Nat.le_of_ble_eq_true rfl) (by decide) pKK ?_
          refine M_X12_taker hH1 hr hT1 hrT1 ?_
          rw [f2, show oI (some b) = nI b from rfl]
          refine pE_if_lt (tgt := 159) dX12_gifts_30 (by decide) (fun h30 => ?_) (fun h30 => ?_)
          · exact absurd h30 (nI_pos (by omega))
          · refine pE_aload_n dX12_gifts_33 rfl rfl ?_
            refine pE_callV (d' := 2) (as := []) dX12_gifts_34 lkX12_448 (cwX12_giver _ _) ivX12_giver ⟨_, rfl, rfl⟩ (by first | assumption | rfl) rfl rfl (Nat.le_of_ble_eq_true rfl) (by decide) pKK ?_
            refine M_X12_giver hH1 hr hT1 hrT1 ?_
            rw [f1, show oI (some a) = nI a from rfl]
            refine pE_istore (lc' := [_, _, _, _, some (.int _), _, _]) dX12_gifts_37 (Nat.le_of_ble_eq_true rfl) rfl rfl ?_
            refine pE_aload_n dX12_gifts_39 rfl rfl ?_
            refine pE_callV (d' := 2) (as := []) dX12_gifts_40 lkX12_451 (cwX12_taker _ _) ivX12_taker ⟨_, rfl, rfl⟩ (by first | assumption | rfl) rfl rfl (Nat.le_of_ble_eq_true rfl) (by decide) pKK ?_
            refine M_X12_taker hH1 hr hT1 hrT1 ?_
            rw [f2, show oI (some b) = nI b from rfl]
            refine pE_istore (lc' := [_, _, _, _, _, some (.int _), _]) dX12_gifts_43 (Nat.le_of_ble_eq_true rfl) rfl rfl ?_
            refine pE_aload_n dX12_gifts_45 rfl rfl ?_
            refine pE_getR dX12_gifts_46 flX12_88 rfl (by first | assumption | rfl) (by first | assumption | rfl) ?_
            refine pE_bipush (v := nI 8) dX12_gifts_49 rfl ?_
            refine pE_iload dX12_gifts_51 rfl ?_
            refine pE_iaddN dX12_gifts_53 ?_
            refine pE_ialoadN dX12_gifts_54 (by first | assumption | rfl) (by first | assumption | omega) (by omega) ?_
            rw [hT1 (8 + a) (by omega)]
            refine pE_aload_n dX12_gifts_55 rfl rfl ?_
            refine pE_iload dX12_gifts_56 rfl ?_
            refine pE_callV (d' := 0) (as := [_]) dX12_gifts_58 lkX12_372 (cwX12_dueOf _ _) ivX12_dueOf ⟨_, rfl, rfl⟩ (by first | assumption | rfl) rfl rfl (Nat.le_of_ble_eq_true rfl) (by decide) pKK ?_
            refine M_X12_dueOf (H := H) (T := T1) (hH1.2.2.2 a (by omega)).2.2.2.1 (hT1 (16 + a) (by omega)) (by omega) ?_
            refine pE_isubN dX12_gifts_61 (by unfold surpN at hsp; omega) ?_
            rw [hsv]
            refine pE_istore (lc' := [_, _, _, _, _, _, some (.int _)]) dX12_gifts_62 (Nat.le_of_ble_eq_true rfl) rfl rfl ?_
            refine pE_aload_n dX12_gifts_64 rfl rfl ?_
            refine pE_iload dX12_gifts_65 rfl ?_
            refine pE_callV (d' := 1) (as := [_]) dX12_gifts_67 lkX12_397 (cwX12_lackOf _ _) ivX12_lackOf ⟨_, rfl, rfl⟩ (by first | assumption | rfl) rfl rfl (Nat.le_of_ble_eq_true rfl) (by decide) pKK ?_
            refine M_X12_lackOf (H := H) (T := T1) (hH1.2.2.2 b (by omega)).2.2.2.1 (hT1 (16 + b) (by omega)) (hT1 (8 + b) (by omega)) (by omega) lb.1 lb.2.1 lb.2.2.1 ?_
            refine pE_iload dX12_gifts_70 rfl ?_
            refine pE_icmp_ge (tgt := 83) dX12_gifts_72 (by decide) (fun h72 => ?_) (fun h72 => ?_)
            · have g72 := nq_le (by omega) (by omega) h72
              refine pE_sipush (v := nI 9999) dX12_gifts_83 rfl ?_
              refine pE_aload_n dX12_gifts_86 rfl rfl ?_
              refine pE_getR dX12_gifts_87 flX12_88 rfl (by first | assumption | rfl) (by first | assumption | rfl) ?_
              refine pE_bipush (v := nI 8) dX12_gifts_90 rfl ?_
              refine pE_iload dX12_gifts_92 rfl ?_
              refine pE_iaddN dX12_gifts_94 ?_
              refine pE_ialoadN dX12_gifts_95 (by first | assumption | rfl) (by first | assumption | omega) (by omega) ?_
              rw [hT1 (8 + b) (by omega)]
              refine pE_isubN dX12_gifts_96 (by omega) ?_
              refine pE_iload dX12_gifts_97 rfl ?_
              refine pE_icmp_ge (tgt := 118) dX12_gifts_99 (by decide) (fun h99 => ?_) (fun h99 => ?_)
              · have g99 := nq_le (by omega) (by omega) h99
                refine pE_aload_n dX12_gifts_118 rfl rfl ?_
                refine pE_getR dX12_gifts_119 flX12_88 rfl (by first | assumption | rfl) (by first | assumption | rfl) ?_
                refine pE_bipush (v := nI 8) dX12_gifts_122 rfl ?_
                refine pE_iload dX12_gifts_124 rfl ?_
                refine pE_iaddN dX12_gifts_126 ?_
                refine pE_dup2 dX12_gifts_127 ?_
                refine pE_ialoadN dX12_gifts_128 (by first | assumption | rfl) (by first | assumption | omega) (by omega) ?_
                rw [hT1 (8 + a) (by omega)]
                refine pE_iload dX12_gifts_129 rfl ?_
                refine pE_isubN dX12_gifts_131 (by omega) ?_
                refine pE_iastoreN dX12_gifts_132 (by first | assumption | rfl) (by first | assumption | omega) (by omega) ?_
                refine pE_aload_n dX12_gifts_133 rfl rfl ?_
                refine pE_getR dX12_gifts_134 flX12_88 rfl (by first | assumption | rfl) (by first | assumption | rfl) ?_
                refine pE_bipush (v := nI 8) dX12_gifts_137 rfl ?_
                refine pE_iload dX12_gifts_139 rfl ?_
                refine pE_iaddN dX12_gifts_141 ?_
                refine pE_dup2 dX12_gifts_142 ?_
                refine pE_ialoadN dX12_gifts_143 (by first | assumption | rfl) (by first | assumption | omega) (by omega) ?_
                rw [pu_o (k := 8 + a) (k' := 8 + b) (by omega) (hT1 (8 + b) (by omega))]
                refine pE_iload dX12_gifts_144 rfl ?_
                refine pE_iaddN dX12_gifts_146 ?_
                refine pE_iastoreN dX12_gifts_147 (by first | assumption | rfl) (by first | assumption | omega) (by omega) ?_
                refine pE_iincN (c0 := 1) (lc' := [_, _, some (.int _), _, _, _, _]) dX12_gifts_148 rfl rfl rfl rfl ?_
                refine pE_iload_n dX12_gifts_151 rfl rfl ?_
                refine pE_iload dX12_gifts_152 rfl ?_
                refine pE_iaddN dX12_gifts_154 ?_
                refine pE_istore_n (lc' := [_, _, _, some (.int _), _, _, _]) dX12_gifts_155 rfl (Nat.le_of_ble_eq_true rfl) rfl rfl ?_
                refine pE_goto (tgt := 19) dX12_gifts_156 (by decide) ?_
                first
                | (have e9 : gfN H T1 a b = surpN H T1 a := by unfold gfN; omega
                   rw [← e9]
                   refine ih (k - 1) (tm + 1) (sm0 + gfN H T1 a b) (givN T1 a b (gfN H T1 a b)) _ _ _ _ (by omega) (by omega) ((hx.pu).pu) ((hT1.pu).pu) (rS_giv hrT1 hl.1 (by omega) (by omega) hl.2.2.2.2.2.1) (fun I3 a3 => ?_)
                   have h9 := hq I3 a3
                   rw [gif_some (by omega) f1 f2] at h9
                   exact h9)
                | (have e9 : gfN H T1 a b = lackN H T1 b := by unfold gfN; omega
                   rw [← e9]
                   refine ih (k - 1) (tm + 1) (sm0 + gfN H T1 a b) (givN T1 a b (gfN H T1 a b)) _ _ _ _ (by omega) (by omega) ((hx.pu).pu) ((hT1.pu).pu) (rS_giv hrT1 hl.1 (by omega) (by omega) hl.2.2.2.2.2.1) (fun I3 a3 => ?_)
                   have h9 := hq I3 a3
                   rw [gif_some (by omega) f1 f2] at h9
                   exact h9)
                | (have e9 : gfN H T1 a b = 9999 - T1 (8 + b) := by unfold gfN; omega
                   rw [← e9]
                   refine ih (k - 1) (tm + 1) (sm0 + gfN H T1 a b) (givN T1 a b (gfN H T1 a b)) _ _ _ _ (by omega) (by omega) ((hx.pu).pu) ((hT1.pu).pu) (rS_giv hrT1 hl.1 (by omega) (by omega) hl.2.2.2.2.2.1) (fun I3 a3 => ?_)
                   have h9 := hq I3 a3
                   rw [gif_some (by omega) f1 f2] at h9
                   exact h9)
              · have g99 := nq_nle (by omega) (by omega) h99
                refine pE_sipush (v := nI 9999) dX12_gifts_102 rfl ?_
                refine pE_aload_n dX12_gifts_105 rfl rfl ?_
                refine pE_getR dX12_gifts_106 flX12_88 rfl (by first | assumption | rfl) (by first | assumption | rfl) ?_
                refine pE_bipush (v := nI 8) dX12_gifts_109 rfl ?_
                refine pE_iload dX12_gifts_111 rfl ?_
                refine pE_iaddN dX12_gifts_113 ?_
                refine pE_ialoadN dX12_gifts_114 (by first | assumption | rfl) (by first | assumption | omega) (by omega) ?_
                rw [hT1 (8 + b) (by omega)]
                refine pE_isubN dX12_gifts_115 (by omega) ?_
                refine pE_istore (lc' := [_, _, _, _, _, _, some (.int _)]) dX12_gifts_116 (Nat.le_of_ble_eq_true rfl) rfl rfl ?_
                refine pE_aload_n dX12_gifts_118 rfl rfl ?_
                refine pE_getR dX12_gifts_119 flX12_88 rfl (by first | assumption | rfl) (by first | assumption | rfl) ?_
                refine pE_bipush (v := nI 8) dX12_gifts_122 rfl ?_
                refine pE_iload dX12_gifts_124 rfl ?_
                refine pE_iaddN dX12_gifts_126 ?_
                refine pE_dup2 dX12_gifts_127 ?_
                refine pE_ialoadN dX12_gifts_128 (by first | assumption | rfl) (by first | assumption | omega) (by omega) ?_
                rw [hT1 (8 + a) (by omega)]
                refine pE_iload dX12_gifts_129 rfl ?_
                refine pE_isubN dX12_gifts_131 (by omega) ?_
                refine pE_iastoreN dX12_gifts_132 (by first | assumption | rfl) (by first | assumption | omega) (by omega) ?_
                refine pE_aload_n dX12_gifts_133 rfl rfl ?_
                refine pE_getR dX12_gifts_134 flX12_88 rfl (by first | assumption | rfl) (by first | assumption | rfl) ?_
                refine pE_bipush (v := nI 8) dX12_gifts_137 rfl ?_
                refine pE_iload dX12_gifts_139 rfl ?_
                refine pE_iaddN dX12_gifts_141 ?_
                refine pE_dup2 dX12_gifts_142 ?_
                refine pE_ialoadN dX12_gifts_143 (by first | assumption | rfl) (by first | assumption | omega) (by omega) ?_
                rw [pu_o (k := 8 + a) (k' := 8 + b) (by omega) (hT1 (8 + b) (by omega))]
                refine pE_iload dX12_gifts_144 rfl ?_
                refine pE_iaddN dX12_gifts_146 ?_
                refine pE_iastoreN dX12_gifts_147 (by first | assumption | rfl) (by first | assumption | omega) (by omega) ?_
                refine pE_iincN (c0 := 1) (lc' := [_, _, some (.int _), _, _, _, _]) dX12_gifts_148 rfl rfl rfl rfl ?_
                refine pE_iload_n dX12_gifts_151 rfl rfl ?_
                refine pE_iload dX12_gifts_152 rfl ?_
                refine pE_iaddN dX12_gifts_154 ?_
                refine pE_istore_n (lc' := [_, _, _, some (.int _), _, _, _]) dX12_gifts_155 rfl (Nat.le_of_ble_eq_true rfl) rfl rfl ?_
                refine pE_goto (tgt := 19) dX12_gifts_156 (by decide) ?_
                first
                | (have e9 : gfN H T1 a b = surpN H T1 a := by unfold gfN; omega
                   rw [← e9]
                   refine ih (k - 1) (tm + 1) (sm0 + gfN H T1 a b) (givN T1 a b (gfN H T1 a b)) _ _ _ _ (by omega) (by omega) ((hx.pu).pu) ((hT1.pu).pu) (rS_giv hrT1 hl.1 (by omega) (by omega) hl.2.2.2.2.2.1) (fun I3 a3 => ?_)
                   have h9 := hq I3 a3
                   rw [gif_some (by omega) f1 f2] at h9
                   exact h9)
                | (have e9 : gfN H T1 a b = lackN H T1 b := by unfold gfN; omega
                   rw [← e9]
                   refine ih (k - 1) (tm + 1) (sm0 + gfN H T1 a b) (givN T1 a b (gfN H T1 a b)) _ _ _ _ (by omega) (by omega) ((hx.pu).pu) ((hT1.pu).pu) (rS_giv hrT1 hl.1 (by omega) (by omega) hl.2.2.2.2.2.1) (fun I3 a3 => ?_)
                   have h9 := hq I3 a3
                   rw [gif_some (by omega) f1 f2] at h9
                   exact h9)
                | (have e9 : gfN H T1 a b = 9999 - T1 (8 + b) := by unfold gfN; omega
                   rw [← e9]
                   refine ih (k - 1) (tm + 1) (sm0 + gfN H T1 a b) (givN T1 a b (gfN H T1 a b)) _ _ _ _ (by omega) (by omega) ((hx.pu).pu) ((hT1.pu).pu) (rS_giv hrT1 hl.1 (by omega) (by omega) hl.2.2.2.2.2.1) (fun I3 a3 => ?_)
                   have h9 := hq I3 a3
                   rw [gif_some (by omega) f1 f2] at h9
                   exact h9)
            · have g72 := nq_nle (by omega) (by omega) h72
              refine pE_aload_n dX12_gifts_75 rfl rfl ?_
              refine pE_iload dX12_gifts_76 rfl ?_
              refine pE_callV (d' := 1) (as := [_]) dX12_gifts_78 lkX12_397 (cwX12_lackOf _ _) ivX12_lackOf ⟨_, rfl, rfl⟩ (by first | assumption | rfl) rfl rfl (Nat.le_of_ble_eq_true rfl) (by decide) pKK ?_
              refine M_X12_lackOf (H := H) (T := T1) (hH1.2.2.2 b (by omega)).2.2.2.1 (hT1 (16 + b) (by omega)) (hT1 (8 + b) (by omega)) (by omega) lb.1 lb.2.1 lb.2.2.1 ?_
              refine pE_istore (lc' := [_, _, _, _, _, _, some (.int _)]) dX12_gifts_81 (Nat.le_of_ble_eq_true rfl) rfl rfl ?_
              refine pE_sipush (v := nI 9999) dX12_gifts_83 rfl ?_
              refine pE_aload_n dX12_gifts_86 rfl rfl ?_
              refine pE_getR dX12_gifts_87 flX12_88 rfl (by first | assumption | rfl) (by first | assumption | rfl) ?_
              refine pE_bipush (v := nI 8) dX12_gifts_90 rfl ?_
              refine pE_iload dX12_gifts_92 rfl ?_
              refine pE_iaddN dX12_gifts_94 ?_
              refine pE_ialoadN dX12_gifts_95 (by first | assumption | rfl) (by first | assumption | omega) (by omega) ?_
              rw [hT1 (8 + b) (by omega)]
              refine pE_isubN dX12_gifts_96 (by omega) ?_
              refine pE_iload dX12_gifts_97 rfl ?_
              refine pE_icmp_ge (tgt := 118) dX12_gifts_99 (by decide) (fun h99 => ?_) (fun h99 => ?_)
              · have g99 := nq_le (by omega) (by omega) h99
                refine pE_aload_n dX12_gifts_118 rfl rfl ?_
                refine pE_getR dX12_gifts_119 flX12_88 rfl (by first | assumption | rfl) (by first | assumption | rfl) ?_
                refine pE_bipush (v := nI 8) dX12_gifts_122 rfl ?_
                refine pE_iload dX12_gifts_124 rfl ?_
                refine pE_iaddN dX12_gifts_126 ?_
                refine pE_dup2 dX12_gifts_127 ?_
                refine pE_ialoadN dX12_gifts_128 (by first | assumption | rfl) (by first | assumption | omega) (by omega) ?_
                rw [hT1 (8 + a) (by omega)]
                refine pE_iload dX12_gifts_129 rfl ?_
                refine pE_isubN dX12_gifts_131 (by omega) ?_
                refine pE_iastoreN dX12_gifts_132 (by first | assumption | rfl) (by first | assumption | omega) (by omega) ?_
                refine pE_aload_n dX12_gifts_133 rfl rfl ?_
                refine pE_getR dX12_gifts_134 flX12_88 rfl (by first | assumption | rfl) (by first | assumption | rfl) ?_
                refine pE_bipush (v := nI 8) dX12_gifts_137 rfl ?_
                refine pE_iload dX12_gifts_139 rfl ?_
                refine pE_iaddN dX12_gifts_141 ?_
                refine pE_dup2 dX12_gifts_142 ?_
                refine pE_ialoadN dX12_gifts_143 (by first | assumption | rfl) (by first | assumption | omega) (by omega) ?_
                rw [pu_o (k := 8 + a) (k' := 8 + b) (by omega) (hT1 (8 + b) (by omega))]
                refine pE_iload dX12_gifts_144 rfl ?_
                refine pE_iaddN dX12_gifts_146 ?_
                refine pE_iastoreN dX12_gifts_147 (by first | assumption | rfl) (by first | assumption | omega) (by omega) ?_
                refine pE_iincN (c0 := 1) (lc' := [_, _, some (.int _), _, _, _, _]) dX12_gifts_148 rfl rfl rfl rfl ?_
                refine pE_iload_n dX12_gifts_151 rfl rfl ?_
                refine pE_iload dX12_gifts_152 rfl ?_
                refine pE_iaddN dX12_gifts_154 ?_
                refine pE_istore_n (lc' := [_, _, _, some (.int _), _, _, _]) dX12_gifts_155 rfl (Nat.le_of_ble_eq_true rfl) rfl rfl ?_
                refine pE_goto (tgt := 19) dX12_gifts_156 (by decide) ?_
                first
                | (have e9 : gfN H T1 a b = surpN H T1 a := by unfold gfN; omega
                   rw [← e9]
                   refine ih (k - 1) (tm + 1) (sm0 + gfN H T1 a b) (givN T1 a b (gfN H T1 a b)) _ _ _ _ (by omega) (by omega) ((hx.pu).pu) ((hT1.pu).pu) (rS_giv hrT1 hl.1 (by omega) (by omega) hl.2.2.2.2.2.1) (fun I3 a3 => ?_)
                   have h9 := hq I3 a3
                   rw [gif_some (by omega) f1 f2] at h9
                   exact h9)
                | (have e9 : gfN H T1 a b = lackN H T1 b := by unfold gfN; omega
                   rw [← e9]
                   refine ih (k - 1) (tm + 1) (sm0 + gfN H T1 a b) (givN T1 a b (gfN H T1 a b)) _ _ _ _ (by omega) (by omega) ((hx.pu).pu) ((hT1.pu).pu) (rS_giv hrT1 hl.1 (by omega) (by omega) hl.2.2.2.2.2.1) (fun I3 a3 => ?_)
                   have h9 := hq I3 a3
                   rw [gif_some (by omega) f1 f2] at h9
                   exact h9)
                | (have e9 : gfN H T1 a b = 9999 - T1 (8 + b) := by unfold gfN; omega
                   rw [← e9]
                   refine ih (k - 1) (tm + 1) (sm0 + gfN H T1 a b) (givN T1 a b (gfN H T1 a b)) _ _ _ _ (by omega) (by omega) ((hx.pu).pu) ((hT1.pu).pu) (rS_giv hrT1 hl.1 (by omega) (by omega) hl.2.2.2.2.2.1) (fun I3 a3 => ?_)
                   have h9 := hq I3 a3
                   rw [gif_some (by omega) f1 f2] at h9
                   exact h9)
              · have g99 := nq_nle (by omega) (by omega) h99
                refine pE_sipush (v := nI 9999) dX12_gifts_102 rfl ?_
                refine pE_aload_n dX12_gifts_105 rfl rfl ?_
                refine pE_getR dX12_gifts_106 flX12_88 rfl (by first | assumption | rfl) (by first | assumption | rfl) ?_
                refine pE_bipush (v := nI 8) dX12_gifts_109 rfl ?_
                refine pE_iload dX12_gifts_111 rfl ?_
                refine pE_iaddN dX12_gifts_113 ?_
                refine pE_ialoadN dX12_gifts_114 (by first | assumption | rfl) (by first | assumption | omega) (by omega) ?_
                rw [hT1 (8 + b) (by omega)]
                refine pE_isubN dX12_gifts_115 (by omega) ?_
                refine pE_istore (lc' := [_, _, _, _, _, _, some (.int _)]) dX12_gifts_116 (Nat.le_of_ble_eq_true rfl) rfl rfl ?_
                refine pE_aload_n dX12_gifts_118 rfl rfl ?_
                refine pE_getR dX12_gifts_119 flX12_88 rfl (by first | assumption | rfl) (by first | assumption | rfl) ?_
                refine pE_bipush (v := nI 8) dX12_gifts_122 rfl ?_
                refine pE_iload dX12_gifts_124 rfl ?_
                refine pE_iaddN dX12_gifts_126 ?_
                refine pE_dup2 dX12_gifts_127 ?_
                refine pE_ialoadN dX12_gifts_128 (by first | assumption | rfl) (by first | assumption | omega) (by omega) ?_
                rw [hT1 (8 + a) (by omega)]
                refine pE_iload dX12_gifts_129 rfl ?_
                refine pE_isubN dX12_gifts_131 (by omega) ?_
                refine pE_iastoreN dX12_gifts_132 (by first | assumption | rfl) (by first | assumption | omega) (by omega) ?_
                refine pE_aload_n dX12_gifts_133 rfl rfl ?_
                refine pE_getR dX12_gifts_134 flX12_88 rfl (by first | assumption | rfl) (by first | assumption | rfl) ?_
                refine pE_bipush (v := nI 8) dX12_gifts_137 rfl ?_
                refine pE_iload dX12_gifts_139 rfl ?_
                refine pE_iaddN dX12_gifts_141 ?_
                refine pE_dup2 dX12_gifts_142 ?_
                refine pE_ialoadN dX12_gifts_143 (by first | assumption | rfl) (by first | assumption | omega) (by omega) ?_
                rw [pu_o (k := 8 + a) (k' := 8 + b) (by omega) (hT1 (8 + b) (by omega))]
                refine pE_iload dX12_gifts_144 rfl ?_
                refine pE_iaddN dX12_gifts_146 ?_
                refine pE_iastoreN dX12_gifts_147 (by first | assumption | rfl) (by first | assumption | omega) (by omega) ?_
                refine pE_iincN (c0 := 1) (lc' := [_, _, some (.int _), _, _, _, _]) dX12_gifts_148 rfl rfl rfl rfl ?_
                refine pE_iload_n dX12_gifts_151 rfl rfl ?_
                refine pE_iload dX12_gifts_152 rfl ?_
                refine pE_iaddN dX12_gifts_154 ?_
                refine pE_istore_n (lc' := [_, _, _, some (.int _), _, _, _]) dX12_gifts_155 rfl (Nat.le_of_ble_eq_true rfl) rfl rfl ?_
                refine pE_goto (tgt := 19) dX12_gifts_156 (by decide) ?_
                first
                | (have e9 : gfN H T1 a b = surpN H T1 a := by unfold gfN; omega
                   rw [← e9]
                   refine ih (k - 1) (tm + 1) (sm0 + gfN H T1 a b) (givN T1 a b (gfN H T1 a b)) _ _ _ _ (by omega) (by omega) ((hx.pu).pu) ((hT1.pu).pu) (rS_giv hrT1 hl.1 (by omega) (by omega) hl.2.2.2.2.2.1) (fun I3 a3 => ?_)
                   have h9 := hq I3 a3
                   rw [gif_some (by omega) f1 f2] at h9
                   exact h9)
                | (have e9 : gfN H T1 a b = lackN H T1 b := by unfold gfN; omega
                   rw [← e9]
                   refine ih (k - 1) (tm + 1) (sm0 + gfN H T1 a b) (givN T1 a b (gfN H T1 a b)) _ _ _ _ (by omega) (by omega) ((hx.pu).pu) ((hT1.pu).pu) (rS_giv hrT1 hl.1 (by omega) (by omega) hl.2.2.2.2.2.1) (fun I3 a3 => ?_)
                   have h9 := hq I3 a3
                   rw [gif_some (by omega) f1 f2] at h9
                   exact h9)
                | (have e9 : gfN H T1 a b = 9999 - T1 (8 + b) := by unfold gfN; omega
                   rw [← e9]
                   refine ih (k - 1) (tm + 1) (sm0 + gfN H T1 a b) (givN T1 a b (gfN H T1 a b)) _ _ _ _ (by omega) (by omega) ((hx.pu).pu) ((hT1.pu).pu) (rS_giv hrT1 hl.1 (by omega) (by omega) hl.2.2.2.2.2.1) (fun I3 a3 => ?_)
                   have h9 := hq I3 a3
                   rw [gif_some (by omega) f1 f2] at h9
                   exact h9)
set_option maxHeartbeats 4000000 in
set_option maxRecDepth 100000 in
theorem M_X12_gifts {l : Launch} {X : pX} {t g : Nat} {I : pHI} {J : pHJ} {Q : pQ} {x : Int32} {H T : pN} (hH : mH H I) (hr : rH H) (hS : mS 90 T I) (hrT : rS 999 H T) (h1 : ∀ w, w ≤ 2 → x = nI w → ∀ I1, sm I I1 → Q (some (.int (if w = 0 then nI (gifN H 64 0 0 T).1 else if w = 1 then nI (gifN H 64 0 0 T).2.1 else nI (sumN (lackN H (gifN H 64 0 0 T).2.2) (H 1))))) I1 J (pR t g)) (h0 : (∀ w, w ≤ 2 → x ≠ nI w) → Q (some (.int (-1))) I J (pR t g)) : pM l X yX12_gifts mX12_gifts 3 [.ref 67, .int x] pK pK I J (pR t g) Q := by
  refine pM_of rfl (fun h => by cases h) rfl pKM (Nat.le_of_ble_eq_true rfl) ?_
  refine pE_iload_n dX12_gifts_0 rfl rfl ?_
  refine pE_iconst (v := nI 0) dX12_gifts_1 rfl ?_
  refine pE_iconst (v := nI 2) dX12_gifts_2 rfl ?_
  refine pE_callS (d' := 0) (as := [_, _, _]) dX12_gifts_3 lkX12_368 (cwX12_isIn _ _) svX12_isIn rfl rfl (Nat.le_of_ble_eq_true rfl) (by decide) pKK ?_
  refine M_X12_isIn  (fun k1 k2 => ?_) (fun k => ?_)
  · obtain ⟨w, rfl, -, hw⟩ := in_rng (by omega) (by omega) k1 k2
    refine pE_if_ne_t (tgt := 11) dX12_gifts_6 (by decide) nI_1n0 ?_
    refine pE_aload_n dX12_gifts_11 rfl rfl ?_
    refine pE_callV (d' := 0) (as := []) dX12_gifts_12 lkX12_394 (cwX12_load _ _) ivX12_load ⟨_, rfl, rfl⟩ (by first | assumption | rfl) rfl rfl (Nat.le_of_ble_eq_true rfl) (by decide) pKK ?_
    refine M_X12_load ?_
    refine pE_iconst (v := nI 0) dX12_gifts_15 rfl ?_
    refine pE_istore_n (lc' := [_, _, some (.int _), _, _, _, _]) dX12_gifts_16 rfl (Nat.le_of_ble_eq_true rfl) rfl rfl ?_
    refine pE_iconst (v := nI 0) dX12_gifts_17 rfl ?_
    refine pE_istore_n (lc' := [_, _, _, some (.int _), _, _, _]) dX12_gifts_18 rfl (Nat.le_of_ble_eq_true rfl) rfl rfl ?_
    exact L_X12_gifts (hH.sm sm.load) hr hw 65 64 0 0 T _ _ _ _ (by omega) (by have := gt_le H T; have := hr.2.1; omega) sm.rf hS.load hrT (fun I2 a => h1 w hw rfl I2 (sm.load.tr a))
  · have hno := out_rng (by omega) (by omega) k
    refine pE_if_ne_f (tgt := 11) dX12_gifts_6 (by decide) nI_0 ?_
    refine pE_iconst (v := -1) dX12_gifts_9 rfl ?_
    refine pE_iret dX12_gifts_10 rfl rfl ?_
    exact h0 (fun w hw => hno w (Nat.zero_le _) hw)
