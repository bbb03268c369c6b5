theorem in_m2 {n : Nat} (h0 : 0 < n) (h8 : n ≤ 8) : nI n - nI 2 = nI (n - 1) + -1 := by
  have : ∀ k, k < 8 → nI (k + 1) - nI 2 = nI k + -1 := by decide
  have := this (n - 1) (by omega)
  rwa [show n - 1 + 1 = n by omega] at this
set_option maxHeartbeats 400000 in
set_option maxRecDepth 100000 in
theorem L_X12_nextR {l : Launch} {X : pX} {t g : Nat} {I : pHI} {J : pHJ} {Q : pQ} {H : pN} {h : Nat → Nat} {k j : Nat} (hH : mH H I) (hr : rH H) (hk : k < j) (hj : j < H 1) (hfall : ∀ i i1, k < i → i < i1 → i1 < H 1 → h i1 ≤ h i) (hlt : h k < h j) (hge : ∀ i, j < i → i < H 1 → h i ≤ h k) (hq : ∀ I1 h2, sz I I1 → (∀ i, i < H 1 → I1 99 i = nI (h2 i)) → (hL h2 (H 1)).Perm (hL h (H 1)) → NX (hL h (H 1)) (hL h2 (H 1)) → Q (some (.int (nI 1))) I1 J (pR t g)) : ∀ (fu : Nat) (m : Nat) (I1 : pHI), H 1 - m < fu → (k + 1 + m ≤ H 1 - 1 - m + 1) → (sz I I1) → ((∀ i, i < H 1 → I1 99 i = nI ((rvH (swH h k j) (k + 1) (H 1 - 1) m) i))) → ((hL (rvH (swH h k j) (k + 1) (H 1 - 1) m) (H 1)).Perm (hL h (H 1))) → pE l X mX12_nextHomes 1 pK 86 [some (.ref 67), some (.int (nI k)), some (.int (nI j)), some (.int (nI (k + 1 + m))), some (.int (nI (H 1 - 1 - m)))] [] pK I1 J (pR t g) Q := by
  intro fu
  induction fu with
  | zero => intro m I1 hn; exact absurd hn (Nat.not_lt_zero _)
  | succ fu ih =>
    intro m I1 hn hm hx hho hp
    have hn8 := hr.2.1
    refine pE_iload_n dX12_nextHomes_86 rfl rfl ?_
    refine pE_iload dX12_nextHomes_87 rfl ?_
    refine pE_icmp_ge (tgt := 108) dX12_nextHomes_89 (by decide) (fun h89 => ?_) (fun h89 => ?_)
    · have g89 := nq_le (by omega) (by omega) h89
      refine pE_iconst (v := nI 1) dX12_nextHomes_108 rfl ?_
      refine pE_zret dX12_nextHomes_109 rfl (by first | exact Or.inl nI_0 | exact Or.inr nI_1' | assumption) rfl ?_
      refine hq _ _ hx hho hp (nx_of hk hj hfall hlt hge (fun i hi => ?_) ?_ (fun i a b => ?_) hp)
      · rw [rv_lo (by omega) (by omega) (by omega)]
        unfold swH
        rw [if_neg (by omega), if_neg (by omega)]
      · rw [rv_lo (by omega) (by omega) (by omega)]
        unfold swH
        rw [if_pos rfl]
      · rw [rv_in (by omega) (by omega) (by omega)]
        exact congrArg _ (by omega)
    · have g89 := nq_nle (by omega) (by omega) h89
      refine pE_aload_n dX12_nextHomes_92 rfl rfl ?_
      refine pE_iload_n dX12_nextHomes_93 rfl rfl ?_
      refine pE_iload dX12_nextHomes_94 rfl ?_
      refine pE_callV (d' := 0) (as := [_, _]) dX12_nextHomes_96 lkX12_464 (cwX12_changeHomes _ _) ivX12_changeHomes ⟨_, rfl, rfl⟩ (by first | assumption | rfl) rfl rfl (Nat.le_of_ble_eq_true rfl) (by decide) pKK ?_
      refine M_X12_changeHomes hn8 (h := rvH (swH h k j) (k + 1) (H 1 - 1) m) hho (by omega) (by omega) (fun I2 f2 hho2 => ?_)
      rw [show nI (H 1 - 1 - m) = nI (H 1 - 1 - (m + 1) + 1) from congrArg nI (by omega)]
      refine pE_iinc (c0 := -1) (lc' := [_, _, _, _, some (.int _)]) dX12_nextHomes_99 rfl rfl rfl rfl ?_
      rw [nI_dec]
      refine pE_iincN (c0 := 1) (lc' := [_, _, _, some (.int _), _]) dX12_nextHomes_102 rfl rfl rfl rfl ?_
      refine pE_goto (tgt := 86) dX12_nextHomes_105 (by decide) ?_
      have es := rv_s (h := swH h k j) (lo := k + 1) (hi := H 1 - 1) (m := m) (by omega)
      refine ih (m + 1) I2 (by omega) (by omega) (hx.p99 f2) (fun i hi => by rw [hho2 i hi, es]) ?_
      rw [← es]
      exact (sw_perm (by omega) (by omega)).trans hp
set_option maxHeartbeats 400000 in
set_option maxRecDepth 100000 in
theorem L_X12_nextJ {l : Launch} {X : pX} {t g : Nat} {I : pHI} {J : pHJ} {Q : pQ} {H : pN} {h : Nat → Nat} {k : Nat} (hH : mH H I) (hr : rH H) (hho : (∀ i, i < H 1 → I 99 i = nI (h i))) (hk1 : k + 1 < H 1) (hfall : ∀ i i1, k < i → i < i1 → i1 < H 1 → h i1 ≤ h i) (hlt : h k < h (k + 1)) (hb : ∀ i, i < H 1 → h i ≤ 20) (v3 v4 : Option Value) (hq : ∀ I1 h2, sz I I1 → (∀ i, i < H 1 → I1 99 i = nI (h2 i)) → (hL h2 (H 1)).Perm (hL h (H 1)) → NX (hL h (H 1)) (hL h2 (H 1)) → Q (some (.int (nI 1))) I1 J (pR t g)) : ∀ j, k ≤ j → j + 1 < H 1 → (∀ i, j + 1 < i → i < H 1 → h i ≤ h k) → pE l X mX12_nextHomes 1 pK 47 [some (.ref 67), some (.int (nI k)), some (.int (nI (j + 1))), v3, v4] [] pK I J (pR t g) Q := by
  have hn8 := hr.2.1
  intro j
  induction j with
  | zero =>
    intro hkj hj hge
    obtain rfl : k = 0 := by omega
    have b1 := hb (0 + 1) (by omega)
    have b2 := hb 0 (by omega)
    refine pE_aload_n dX12_nextHomes_47 rfl rfl ?_
    refine pE_getR dX12_nextHomes_48 flX12_112 rfl (by first | assumption | rfl) (by first | assumption | rfl) ?_
    refine pE_iload_n dX12_nextHomes_51 rfl rfl ?_
    refine pE_ialoadN dX12_nextHomes_52 (by first | assumption | rfl) (by first | assumption | omega) (by omega) ?_
    rw [hho _ (by omega)]
    refine pE_aload_n dX12_nextHomes_53 rfl rfl ?_
    refine pE_getR dX12_nextHomes_54 flX12_112 rfl (by first | assumption | rfl) (by first | assumption | rfl) ?_
    refine pE_iload_n dX12_nextHomes_57 rfl rfl ?_
    refine pE_ialoadN dX12_nextHomes_58 (by first | assumption | rfl) (by first | assumption | omega) (by omega) ?_
    rw [hho _ (by omega)]
    refine pE_icmp_gt (tgt := 68) dX12_nextHomes_59 (by decide) (fun h59 => ?_) (fun h59 => ?_)
    · have g59 := nq_lt (by omega) (by omega) h59
      refine pE_aload_n dX12_nextHomes_68 rfl rfl ?_
      refine pE_iload_n dX12_nextHomes_69 rfl rfl ?_
      refine pE_iload_n dX12_nextHomes_70 rfl rfl ?_
      refine pE_callV (d' := 0) (as := [_, _]) dX12_nextHomes_71 lkX12_464 (cwX12_changeHomes _ _) ivX12_changeHomes ⟨_, rfl, rfl⟩ (by first | assumption | rfl) rfl rfl (Nat.le_of_ble_eq_true rfl) (by decide) pKK ?_
      refine M_X12_changeHomes hn8 (h := h) hho (show 0 < H 1 by omega) (show 0 + 1 < H 1 by omega) (fun I2 f2 hho2 => ?_)
      refine pE_iload_n dX12_nextHomes_74 rfl rfl ?_
      refine pE_iconst (v := nI 1) dX12_nextHomes_75 rfl ?_
      refine pE_iaddN dX12_nextHomes_76 ?_
      refine pE_istore_n (lc' := [_, _, _, some (.int _), _]) dX12_nextHomes_77 rfl (Nat.le_of_ble_eq_true rfl) rfl rfl ?_
      refine pE_aload_n dX12_nextHomes_78 rfl rfl ?_
      refine pE_getI dX12_nextHomes_79 flX12_350 rfl (Or.inl rfl) (by first | assumption | rfl) ?_
      rw [(hH.sz (sz.rf.p99 f2)).2.1]
      refine pE_iconst (v := nI 1) dX12_nextHomes_82 rfl ?_
      refine pE_isubN dX12_nextHomes_83 (by omega) ?_
      refine pE_istore (lc' := [_, _, _, _, some (.int _)]) dX12_nextHomes_84 (Nat.le_of_ble_eq_true rfl) rfl rfl ?_
      refine L_X12_nextR hH hr (j := 0 + 1) (by omega) (by omega) hfall g59 hge hq (H 1 + 1) 0 I2 (by omega) (by omega) (sz.rf.p99 f2) (fun i hi => by rw [rv0]; exact hho2 i hi) ?_
      rw [rv0]
      exact sw_perm (by omega) (by omega)
    · have g59 := nq_nlt (by omega) (by omega) h59
      exact absurd hlt (by omega)
  | succ j ih =>
    intro hkj hj hge
    have b1 := hb ((j + 1) + 1) (by omega)
    have b2 := hb k (by omega)
    refine pE_aload_n dX12_nextHomes_47 rfl rfl ?_
    refine pE_getR dX12_nextHomes_48 flX12_112 rfl (by first | assumption | rfl) (by first | assumption | rfl) ?_
    refine pE_iload_n dX12_nextHomes_51 rfl rfl ?_
    refine pE_ialoadN dX12_nextHomes_52 (by first | assumption | rfl) (by first | assumption | omega) (by omega) ?_
    rw [hho _ (by omega)]
    refine pE_aload_n dX12_nextHomes_53 rfl rfl ?_
    refine pE_getR dX12_nextHomes_54 flX12_112 rfl (by first | assumption | rfl) (by first | assumption | rfl) ?_
    refine pE_iload_n dX12_nextHomes_57 rfl rfl ?_
    refine pE_ialoadN dX12_nextHomes_58 (by first | assumption | rfl) (by first | assumption | omega) (by omega) ?_
    rw [hho _ (by omega)]
    refine pE_icmp_gt (tgt := 68) dX12_nextHomes_59 (by decide) (fun h59 => ?_) (fun h59 => ?_)
    · have g59 := nq_lt (by omega) (by omega) h59
      refine pE_aload_n dX12_nextHomes_68 rfl rfl ?_
      refine pE_iload_n dX12_nextHomes_69 rfl rfl ?_
      refine pE_iload_n dX12_nextHomes_70 rfl rfl ?_
      refine pE_callV (d' := 0) (as := [_, _]) dX12_nextHomes_71 lkX12_464 (cwX12_changeHomes _ _) ivX12_changeHomes ⟨_, rfl, rfl⟩ (by first | assumption | rfl) rfl rfl (Nat.le_of_ble_eq_true rfl) (by decide) pKK ?_
      refine M_X12_changeHomes hn8 (h := h) hho (show k < H 1 by omega) (show (j + 1) + 1 < H 1 by omega) (fun I2 f2 hho2 => ?_)
      refine pE_iload_n dX12_nextHomes_74 rfl rfl ?_
      refine pE_iconst (v := nI 1) dX12_nextHomes_75 rfl ?_
      refine pE_iaddN dX12_nextHomes_76 ?_
      refine pE_istore_n (lc' := [_, _, _, some (.int _), _]) dX12_nextHomes_77 rfl (Nat.le_of_ble_eq_true rfl) rfl rfl ?_
      refine pE_aload_n dX12_nextHomes_78 rfl rfl ?_
      refine pE_getI dX12_nextHomes_79 flX12_350 rfl (Or.inl rfl) (by first | assumption | rfl) ?_
      rw [(hH.sz (sz.rf.p99 f2)).2.1]
      refine pE_iconst (v := nI 1) dX12_nextHomes_82 rfl ?_
      refine pE_isubN dX12_nextHomes_83 (by omega) ?_
      refine pE_istore (lc' := [_, _, _, _, some (.int _)]) dX12_nextHomes_84 (Nat.le_of_ble_eq_true rfl) rfl rfl ?_
      refine L_X12_nextR hH hr (j := (j + 1) + 1) (by omega) (by omega) hfall g59 hge hq (H 1 + 1) 0 I2 (by omega) (by omega) (sz.rf.p99 f2) (fun i hi => by rw [rv0]; exact hho2 i hi) ?_
      rw [rv0]
      exact sw_perm (by omega) (by omega)
    · have g59 := nq_nlt (by omega) (by omega) h59
      refine pE_iinc (c0 := -1) (lc' := [_, _, some (.int _), _, _]) dX12_nextHomes_62 rfl rfl rfl rfl ?_
      rw [nI_dec]
      refine pE_goto (tgt := 47) dX12_nextHomes_65 (by decide) ?_
      have e7 : k ≠ j + 1 := fun e => by subst e; omega
      refine ih (by omega) (by omega) (fun i a b => ?_)
      rcases Nat.lt_or_ge (j + 1 + 1) i with c | c
      · exact hge i c b
      · obtain rfl : i = j + 1 + 1 := by omega
        omega
set_option maxHeartbeats 400000 in
set_option maxRecDepth 100000 in
theorem L_X12_nextK {l : Launch} {X : pX} {t g : Nat} {I : pHI} {J : pHJ} {Q : pQ} {H : pN} {h : Nat → Nat} (hH : mH H I) (hr : rH H) (hho : (∀ i, i < H 1 → I 99 i = nI (h i))) (hb : ∀ i, i < H 1 → h i ≤ 20) (v2 v3 v4 : Option Value) (hf : (∀ i i1, i < i1 → i1 < H 1 → h i1 ≤ h i) → Q (some (.int (nI 0))) I J (pR t g)) (hq : ∀ I1 h2, sz I I1 → (∀ i, i < H 1 → I1 99 i = nI (h2 i)) → (hL h2 (H 1)).Perm (hL h (H 1)) → NX (hL h (H 1)) (hL h2 (H 1)) → Q (some (.int (nI 1))) I1 J (pR t g)) : ∀ c, c + 1 ≤ H 1 → (∀ i i1, c ≤ i → i < i1 → i1 < H 1 → h i1 ≤ h i) → pE l X mX12_nextHomes 1 pK 7 [some (.ref 67), some (.int (nI c + -1)), v2, v3, v4] [] pK I J (pR t g) Q := by
  have hn8 := hr.2.1
  intro c
  induction c with
  | zero =>
    intro hc hfall
    rw [show nI 0 + -1 = (-1 : Int32) by decide]
    refine pE_iload_n dX12_nextHomes_7 rfl rfl ?_
    refine pE_if_lt (tgt := 34) dX12_nextHomes_8 (by decide) (fun h8 => ?_) (fun h8 => ?_)
    · refine pE_iload_n dX12_nextHomes_34 rfl rfl ?_
      refine pE_if_ge (tgt := 40) dX12_nextHomes_35 (by decide) (fun h35 => ?_) (fun h35 => ?_)
      · exact absurd h35 (by decide)
      · refine pE_iconst (v := nI 0) dX12_nextHomes_38 rfl ?_
        refine pE_zret dX12_nextHomes_39 rfl (by first | exact Or.inl nI_0 | exact Or.inr nI_1' | assumption) rfl ?_
        exact hf (fun i i1 a b => hfall i i1 (Nat.zero_le _) a b)
    · exact absurd (by decide : (-1 : Int32) < 0) h8
  | succ c ih =>
    intro hc hfall
    rw [nI_dec]
    have b1 := hb (c + 1) (by omega)
    have b2 := hb c (by omega)
    refine pE_iload_n dX12_nextHomes_7 rfl rfl ?_
    refine pE_if_lt (tgt := 34) dX12_nextHomes_8 (by decide) (fun h8 => ?_) (fun h8 => ?_)
    · exact absurd h8 (nI_pos (by omega))
    · refine pE_aload_n dX12_nextHomes_11 rfl rfl ?_
      refine pE_getR dX12_nextHomes_12 flX12_112 rfl (by first | assumption | rfl) (by first | assumption | rfl) ?_
      refine pE_iload_n dX12_nextHomes_15 rfl rfl ?_
      refine pE_ialoadN dX12_nextHomes_16 (by first | assumption | rfl) (by first | assumption | omega) (by omega) ?_
      rw [hho _ (by omega)]
      refine pE_aload_n dX12_nextHomes_17 rfl rfl ?_
      refine pE_getR dX12_nextHomes_18 flX12_112 rfl (by first | assumption | rfl) (by first | assumption | rfl) ?_
      refine pE_iload_n dX12_nextHomes_21 rfl rfl ?_
      refine pE_iconst (v := nI 1) dX12_nextHomes_22 rfl ?_
      refine pE_iaddN dX12_nextHomes_23 ?_
      refine pE_ialoadN dX12_nextHomes_24 (by first | assumption | rfl) (by first | assumption | omega) (by omega) ?_
      rw [hho _ (by omega)]
      refine pE_icmp_lt (tgt := 34) dX12_nextHomes_25 (by decide) (fun h25 => ?_) (fun h25 => ?_)
      · have g25 := nq_lt (by omega) (by omega) h25
        refine pE_iload_n dX12_nextHomes_34 rfl rfl ?_
        refine pE_if_ge (tgt := 40) dX12_nextHomes_35 (by decide) (fun h35 => ?_) (fun h35 => ?_)
        · refine pE_aload_n dX12_nextHomes_40 rfl rfl ?_
          refine pE_getI dX12_nextHomes_41 flX12_350 rfl (Or.inl rfl) (by first | assumption | rfl) ?_
          rw [hH.2.1]
          refine pE_iconst (v := nI 1) dX12_nextHomes_44 rfl ?_
          refine pE_isubN dX12_nextHomes_45 (by omega) ?_
          refine pE_istore_n (lc' := [_, _, some (.int _), _, _]) dX12_nextHomes_46 rfl (Nat.le_of_ble_eq_true rfl) rfl rfl ?_
          rw [show nI (H 1 - 1) = nI (H 1 - 2 + 1) from congrArg nI (by omega)]
          exact L_X12_nextJ hH hr hho (by omega) (fun i i1 a b d => hfall i i1 (by omega) b d) g25 hb _ _ hq (H 1 - 2) (by omega) (by omega) (fun i a b => absurd a (by omega))
        · exact absurd h35 (not_not_intro (nI_pos' (by omega)))
      · have g25 := nq_nlt (by omega) (by omega) h25
        refine pE_iinc (c0 := -1) (lc' := [_, some (.int _), _, _, _]) dX12_nextHomes_28 rfl rfl rfl rfl ?_
        refine pE_goto (tgt := 7) dX12_nextHomes_31 (by decide) ?_
        refine ih (by omega) (fun i i1 a b d => ?_)
        rcases Nat.lt_or_ge c i with e | e
        · exact hfall i i1 (by omega) b d
        · obtain rfl : i = c := by omega
          rcases Nat.lt_or_ge (i + 1) i1 with e2 | e2
          · exact Nat.le_trans (hfall (i + 1) i1 (by omega) e2 d) (by omega)
          · obtain rfl : i1 = i + 1 := by omega
            omega
set_option maxHeartbeats 400000 in
set_option maxRecDepth 100000 in
theorem M_X12_nextHomes {l : Launch} {X : pX} {t g : Nat} {I : pHI} {J : pHJ} {Q : pQ} {H : pN} {h : Nat → Nat} (hH : mH H I) (hr : rH H) (h0 : 0 < H 1) (hho : (∀ i, i < H 1 → I 99 i = nI (h i))) (hb : ∀ i, i < H 1 → h i ≤ 20) (hf : (∀ i i1, i < i1 → i1 < H 1 → h i1 ≤ h i) → Q (some (.int (nI 0))) I J (pR t g)) (hq : ∀ I1 h2, sz I I1 → (∀ i, i < H 1 → I1 99 i = nI (h2 i)) → (hL h2 (H 1)).Perm (hL h (H 1)) → NX (hL h (H 1)) (hL h2 (H 1)) → Q (some (.int (nI 1))) I1 J (pR t g)) : pM l X yX12_nextHomes mX12_nextHomes 1 [.ref 67] pK pK I J (pR t g) Q := by
  have hn8 := hr.2.1
  refine pM_of rfl (fun h => by cases h) rfl pKM (Nat.le_of_ble_eq_true rfl) ?_
  refine pE_aload_n dX12_nextHomes_0 rfl rfl ?_
  refine pE_getI dX12_nextHomes_1 flX12_350 rfl (Or.inl rfl) (by first | assumption | rfl) ?_
  rw [hH.2.1]
  refine pE_iconst (v := nI 2) dX12_nextHomes_4 rfl ?_
  refine pE_isub dX12_nextHomes_5 ?_
  rw [show nI (H 1) - nI 2 = nI (H 1 - 1) + -1 from in_m2 h0 hn8]
  refine pE_istore_n (lc' := [_, some (.int _), _, _, _]) dX12_nextHomes_6 rfl (Nat.le_of_ble_eq_true rfl) rfl rfl ?_
  exact L_X12_nextK hH hr hho hb _ _ _ hf hq (H 1 - 1) (by omega) (fun i i1 a b d => absurd a (by omega))
