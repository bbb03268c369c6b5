-- needs: 32.kept 33.rel9 35.actsm
set_option maxHeartbeats 4000000 in
set_option maxRecDepth 100000 in
theorem M_X12_breathFor_o {l : Launch} {X : pX} {t g : Nat} {I : pHI} {J : pHJ} {Q : pQ} {s : Nat} {ca : Int32} {c : Option Nat} {H : pN} (hH : mH H I) (hr : rH H) (hc : cO H ca c) (hq : Q (some (.int (nI (brN s (hvN H c))))) I J (pR t g)) : pM l X yX12_breathFor mX12_breathFor 0 [.ref 67, .int (nI s), .int ca] pK pK I J (pR t g) Q := by
  rcases hc with ⟨rfl, rfl⟩ | ⟨i, rfl, rfl, hi⟩
  · exact M_X12_breathFor_0 hq
  · have hn8 := hr.2.1
    have b9 := (hr.2.2.2.2 i (by omega)).2.2.1
    exact M_X12_breathFor_c (H := H) (by omega) (hH.2.2.2 i hi).2.2.1 b9 hq
set_option maxHeartbeats 4000000 in
set_option maxRecDepth 100000 in
theorem M_X12_countOf_o {l : Launch} {X : pX} {t g : Nat} {I : pHI} {J : pHJ} {Q : pQ} {s nt : Nat} {ca : Int32} {c : Option Nat} {H T : pN} {p pc : pP} (hH : mH H I) (hr : rH H) (hc : cO H ca c) (hF : mF 0 p I) (hw : p = [] ∨ wfp p 0) (hpc : fR 0 p pc) (hT : mS 91 T I) (hq : ∀ I1, sb I I1 → Q (some (.int (nI (cntN pc T s (hvN H c) nt (T 24))))) I1 J (pR t g)) : pM l X yX12_countOf mX12_countOf 3 [.ref 67, .int (nI s), .int ca, .int (nI nt)] pK pK I J (pR t g) Q := by
  rcases hc with ⟨rfl, rfl⟩ | ⟨i, rfl, rfl, hi⟩
  · refine M_X12_countOf_0 hF hw hT (fun I1 hb => ?_)
    rw [fr_cnt hpc]
    exact hq I1 hb
  · have hn8 := hr.2.1
    have b9 := (hr.2.2.2.2 i (by omega)).2.2.1
    refine M_X12_countOf_c (H := H) hF hw hT (by omega) (hH.2.2.2 i hi).2.2.1 (fun I1 hb => ?_)
    rw [fr_cnt hpc]
    exact hq I1 hb
set_option maxHeartbeats 4000000 in
set_option maxRecDepth 100000 in
theorem M_X12_goClimb_o {l : Launch} {X : pX} {t g : Nat} {I : pHI} {J : pHJ} {Q : pQ} {j s cnt : Nat} {ca : Int32} {c : Option Nat} {H T : pN} (hH : mH H I) (hr : rH H) (hc : cO H ca c) (hT : mS 91 T I) (hj : j < 8) (b1 : T (8 + j) ≤ 9999) (b2 : cnt ≤ 999) (b3 : s ≤ 1000) (b5 : brN s (hvN H c) ≤ T j) (hq : ∀ I1, sm I I1 → mS 91 (walkN T j s (hvN H c) cnt) I1 → Q none I1 J (pR t g)) : pM l X yX12_goClimb mX12_goClimb 1 [.ref 67, .int (nI j), .int (nI s), .int ca, .int (nI cnt)] pK pK I J (pR t g) Q := by
  rcases hc with ⟨rfl, rfl⟩ | ⟨i, rfl, rfl, hi⟩
  · exact M_X12_goClimb_0 hT hj b1 b2 b3 b5 hq
  · have hn8 := hr.2.1
    have b9 := (hr.2.2.2.2 i (by omega)).2.2.1
    exact M_X12_goClimb_c (H := H) hT hj b1 b2 b3 (by omega) (hH.2.2.2 i hi).2.2.1 b9 b5 hq
set_option maxHeartbeats 4000000 in
set_option maxRecDepth 100000 in
theorem L_X12_canClimb {l : Launch} {X : pX} {t g : Nat} {I : pHI} {J : pHJ} {Q : pQ} {ca ni : Int32} {j s : Nat} {c : Option Nat} {H T : pN} (hH : mH H I) (hr : rH H) (hrT : rS 999 H T) (hS : mS 91 T I) (hj : j < H 1) (hs : s ≤ H 0) (hc : cO H ca c) (h1 : brN s (hvN H c) ≤ T j → Q (some (.int (nI 1))) I J (pR t g)) (h0 : ¬ brN s (hvN H c) ≤ T j → Q (some (.int (nI 0))) I J (pR t g)) : pE l X mX12_canClimb 2 pK 50 [some (.ref 67), some (.int (nI j)), some (.int (nI s)), some (.int ca), some (.int ni)] [] pK I J (pR t g) Q := by
  have hn8 := hr.2.1
  have hn20 := hr.1.2
  have hv9 := hvN_le hr hc
  have hT40 := (hrT.2.2.2.2 j (by omega)).1
  have hb : brN s (hvN H c) ≤ 80 := by unfold brN; exact Nat.le_trans (Nat.mul_le_mul (by omega : s ≤ 20) (by omega : 1 + hvN H c / 3 ≤ 4)) (by omega)
  refine pE_aload_n dX12_canClimb_50 rfl rfl ?_
  refine pE_iload_n dX12_canClimb_51 rfl rfl ?_
  refine pE_iload_n dX12_canClimb_52 rfl rfl ?_
  refine pE_callV (d' := 0) (as := [_, _]) dX12_canClimb_53 lkX12_385 (cwX12_breathFor _ _) ivX12_breathFor ⟨_, rfl, rfl⟩ (by first | assumption | rfl) rfl rfl (Nat.le_of_ble_eq_true rfl) (by decide) pKK ?_
  refine M_X12_breathFor_o hH hr hc ?_
  refine pE_aload_n dX12_canClimb_56 rfl rfl ?_
  refine pE_getR dX12_canClimb_57 flX12_88 rfl (by first | assumption | rfl) (by first | assumption | rfl) ?_
  refine pE_iload_n dX12_canClimb_60 rfl rfl ?_
  refine pE_ialoadN dX12_canClimb_61 (by first | assumption | rfl) (by first | assumption | omega) (by omega) ?_
  rw [hS j (by omega)]
  refine pE_icmp_gt (tgt := 69) dX12_canClimb_62 (by decide) (fun h62 => ?_) (fun h62 => ?_)
  · have g62 := nq_lt (by omega) (by omega) h62
    refine pE_iconst (v := nI 0) dX12_canClimb_69 rfl ?_
    refine pE_zret dX12_canClimb_70 rfl (by first | exact Or.inl nI_0 | exact Or.inr nI_1' | assumption) rfl ?_
    first | exact h1 (by omega) | exact h0 (by omega)
  · have g62 := nq_nlt (by omega) (by omega) h62
    refine pE_iconst (v := nI 1) dX12_canClimb_65 rfl ?_
    refine pE_goto (tgt := 70) dX12_canClimb_66 (by decide) ?_
    refine pE_zret dX12_canClimb_70 rfl (by first | exact Or.inl nI_0 | exact Or.inr nI_1' | assumption) rfl ?_
    first | exact h1 (by omega) | exact h0 (by omega)
set_option maxHeartbeats 4000000 in
set_option maxRecDepth 100000 in
theorem L2_X12_canClimb {l : Launch} {X : pX} {t g : Nat} {I : pHI} {J : pHJ} {Q : pQ} {ca : Int32} {j s nt : Nat} {H T : pN} (hH : mH H I) (hr : rH H) (hrT : rS 999 H T) (hS : mS 91 T I) (hj : j < H 1) (hs1 : 1 ≤ s) (hs2 : s ≤ H 0) (hnt1 : nt ≤ 1) (hca : ca = -1 ∨ ∃ i, i < H 1 ∧ ca = nI i) (h1 : ∀ j2 s2 nt2 c, CCw H T (nI j) (nI s) ca (nI nt) j2 s2 nt2 c → Q (some (.int (nI 1))) I J (pR t g)) (h0 : (∀ j2 s2 nt2 c, ¬ CCw H T (nI j) (nI s) ca (nI nt) j2 s2 nt2 c) → Q (some (.int (nI 0))) I J (pR t g)) : pE l X mX12_canClimb 2 pK 43 [some (.ref 67), some (.int (nI j)), some (.int (nI s)), some (.int ca), some (.int (nI nt))] [] pK I J (pR t g) Q := by
  have hn8 := hr.2.1
  have hn20 := hr.1.2
  refine pE_iload_n dX12_canClimb_43 rfl rfl ?_
  refine pE_iload_n dX12_canClimb_44 rfl rfl ?_
  refine pE_icmp_ne (tgt := 50) dX12_canClimb_45 (by decide) (fun h45 => ?_) (fun h45 => ?_)
  · rcases hca with hca | hca
    · exact L_X12_canClimb (c := none) hH hr hrT hS hj hs2 (Or.inl ⟨rfl, hca⟩) (fun hb => h1 j s nt none ⟨rfl, hj, rfl, ⟨hs1, hs2⟩, rfl, hnt1, Or.inl ⟨rfl, hca⟩, hb⟩) (fun hb => h0 (fun j2 s2 n2 c2 hc2 => by
          obtain ⟨e1, e2, e3, e4, e5, -, e7, e8⟩ := hc2
          have d1 := nq_eq (by omega) (by omega) e1
          have d2 := nq_eq (by omega) (by omega) e3
          subst d1 d2
          rcases e7 with ⟨rfl, -⟩ | ⟨i2, rfl, e, hi2, -⟩
          · exact hb e8
          · rw [hca] at e; exact nI_m1n (by omega) e.symm))
    · obtain ⟨i, hi, rfl⟩ := hca
      have hne : i ≠ j := fun e => h45 (by rw [e])
      exact L_X12_canClimb (c := (some i)) hH hr hrT hS hj hs2 (Or.inr ⟨i, rfl, rfl, hi⟩) (fun hb => h1 j s nt (some i) ⟨rfl, hj, rfl, ⟨hs1, hs2⟩, rfl, hnt1, Or.inr ⟨i, rfl, rfl, hi, hne⟩, hb⟩) (fun hb => h0 (fun j2 s2 n2 c2 hc2 => by
          obtain ⟨e1, e2, e3, e4, e5, -, e7, e8⟩ := hc2
          have d1 := nq_eq (by omega) (by omega) e1
          have d2 := nq_eq (by omega) (by omega) e3
          subst d1 d2
          rcases e7 with ⟨rfl, e⟩ | ⟨i2, rfl, e, hi2, -⟩
          · exact nI_m1n (by omega) e
          · have d3 := nq_eq (by omega) (by omega) e
            subst d3
            exact hb e8))
  · refine pE_iconst (v := nI 0) dX12_canClimb_48 rfl ?_
    refine pE_zret dX12_canClimb_49 rfl (by first | exact Or.inl nI_0 | exact Or.inr nI_1' | assumption) rfl ?_
    refine h0 (fun j2 s2 nt2 c hc => ?_)
    obtain ⟨e1, e0, -, -, -, -, e7, -⟩ := hc
    have d1 := nq_eq (by omega) (by omega) e1
    subst d1
    rcases e7 with ⟨-, e⟩ | ⟨i2, -, e, hi2, hne⟩
    · exact nI_m1n (by omega) (h45.symm.trans e)
    · exact hne (nq_eq (by omega) (by omega) (e.symm.trans h45))
set_option maxHeartbeats 4000000 in
set_option maxRecDepth 100000 in
theorem M_X12_canClimb {l : Launch} {X : pX} {t g : Nat} {I : pHI} {J : pHJ} {Q : pQ} {te by_ ca ni : Int32} {H T : pN} (hH : mH H I) (hr : rH H) (hrT : rS 999 H T) (hS : mS 91 T I) (h1 : ∀ j s nt c, CCw H T te by_ ca ni j s nt c → Q (some (.int (nI 1))) I J (pR t g)) (h0 : (∀ j s nt c, ¬ CCw H T te by_ ca ni j s nt c) → Q (some (.int (nI 0))) I J (pR t g)) : pM l X yX12_canClimb mX12_canClimb 2 [.ref 67, .int te, .int by_, .int ca, .int ni] pK pK I J (pR t g) Q := by
  refine pM_of rfl (fun h => by cases h) rfl pKM (Nat.le_of_ble_eq_true rfl) ?_
  have hn8 := hr.2.1
  have hn20 := hr.1.2
  refine pE_aload_n dX12_canClimb_0 rfl rfl ?_
  refine pE_iload_n dX12_canClimb_1 rfl rfl ?_
  refine pE_callV (d' := 1) (as := [_]) dX12_canClimb_2 lkX12_382 (cwX12_isTenant _ _) ivX12_isTenant ⟨_, rfl, rfl⟩ (by first | assumption | rfl) rfl rfl (Nat.le_of_ble_eq_true rfl) (by decide) pKK ?_
  refine M_X12_isTenant (H := H) hH.2.1 hn8 (fun j hj e => ?_) (fun hno => ?_)
  · subst e
    refine pE_if_eq_f (tgt := 48) dX12_canClimb_5 (by decide) nI_1n0 ?_
    refine pE_iload_n dX12_canClimb_8 rfl rfl ?_
    refine pE_iconst (v := nI 1) dX12_canClimb_9 rfl ?_
    refine pE_aload_n dX12_canClimb_10 rfl rfl ?_
    refine pE_getI dX12_canClimb_11 flX12_82 rfl (Or.inl rfl) (by first | assumption | rfl) ?_
    rw [hH.1]
    refine pE_callS (d' := 0) (as := [_, _, _]) dX12_canClimb_14 lkX12_368 (cwX12_isIn _ _) svX12_isIn rfl rfl (Nat.le_of_ble_eq_true rfl) (by decide) pKK ?_
    refine M_X12_isIn  (fun k1 k2 => ?_) (fun k => ?_)
    · obtain ⟨s, e, hs1, hs2⟩ := in_rng (by omega) (by omega) k1 k2
      subst e
      refine pE_if_eq_f (tgt := 48) dX12_canClimb_17 (by decide) nI_1n0 ?_
      refine pE_iload dX12_canClimb_20 rfl ?_
      refine pE_iconst (v := nI 0) dX12_canClimb_22 rfl ?_
      refine pE_iconst (v := nI 1) dX12_canClimb_23 rfl ?_
      refine pE_callS (d' := 0) (as := [_, _, _]) dX12_canClimb_24 lkX12_368 (cwX12_isIn _ _) svX12_isIn rfl rfl (Nat.le_of_ble_eq_true rfl) (by decide) pKK ?_
      refine M_X12_isIn  (fun k1 k2 => ?_) (fun k => ?_)
      · obtain ⟨nt, e, -, hnt1⟩ := in_rng (by omega) (by omega) k1 k2
        subst e
        refine pE_if_eq_f (tgt := 48) dX12_canClimb_27 (by decide) nI_1n0 ?_
        refine pE_iload_n dX12_canClimb_30 rfl rfl ?_
        refine pE_iconst (v := -1) dX12_canClimb_31 rfl ?_
        refine pE_icmp_eq (tgt := 43) dX12_canClimb_32 (by decide) (fun h32 => ?_) (fun h32 => ?_)
        · first | exact L2_X12_canClimb hH hr hrT hS hj hs1 hs2 hnt1 (Or.inl h32) h1 h0 | exact L2_X12_canClimb hH hr hrT hS hj hs1 hs2 hnt1 (Or.inr ⟨i, hi, e⟩) h1 h0
        · refine pE_aload_n dX12_canClimb_35 rfl rfl ?_
          refine pE_iload_n dX12_canClimb_36 rfl rfl ?_
          refine pE_callV (d' := 1) (as := [_]) dX12_canClimb_37 lkX12_382 (cwX12_isTenant _ _) ivX12_isTenant ⟨_, rfl, rfl⟩ (by first | assumption | rfl) rfl rfl (Nat.le_of_ble_eq_true rfl) (by decide) pKK ?_
          refine M_X12_isTenant (H := H) hH.2.1 hn8 (fun i hi e => ?_) (fun hno => ?_)
          · refine pE_if_eq_f (tgt := 48) dX12_canClimb_40 (by decide) nI_1n0 ?_
            first | exact L2_X12_canClimb hH hr hrT hS hj hs1 hs2 hnt1 (Or.inl h32) h1 h0 | exact L2_X12_canClimb hH hr hrT hS hj hs1 hs2 hnt1 (Or.inr ⟨i, hi, e⟩) h1 h0
          · have hno2 : ∀ j2 s2 nt2 c, ¬ CCw H T (nI j) (nI s) ca (nI nt) j2 s2 nt2 c := fun j2 s2 nt c hc => by
              rcases hc.2.2.2.2.2.2.1 with ⟨-, e⟩ | ⟨i, -, e, hi, -⟩
              · exact h32 e
              · exact hno i hi e
            refine pE_if_eq_t (tgt := 48) dX12_canClimb_40 (by decide) nI_0 ?_
            refine pE_iconst (v := nI 0) dX12_canClimb_48 rfl ?_
            refine pE_zret dX12_canClimb_49 rfl (by first | exact Or.inl nI_0 | exact Or.inr nI_1' | assumption) rfl ?_
            exact h0 hno2
      · have hno := out_rng (by omega) (by omega) k
        have hno2 : ∀ j2 s2 nt c, ¬ CCw H T (nI j) (nI s) ca ni j2 s2 nt c := fun j2 s2 nt c hc => hno nt (Nat.zero_le _) hc.2.2.2.2.2.1 hc.2.2.2.2.1
        refine pE_if_eq_t (tgt := 48) dX12_canClimb_27 (by decide) nI_0 ?_
        refine pE_iconst (v := nI 0) dX12_canClimb_48 rfl ?_
        refine pE_zret dX12_canClimb_49 rfl (by first | exact Or.inl nI_0 | exact Or.inr nI_1' | assumption) rfl ?_
        exact h0 hno2
    · have hno := out_rng (by omega) (by omega) k
      have hno2 : ∀ j2 s nt c, ¬ CCw H T (nI j) by_ ca ni j2 s nt c := fun j2 s nt c hc => hno s hc.2.2.2.1.1 hc.2.2.2.1.2 hc.2.2.1
      refine pE_if_eq_t (tgt := 48) dX12_canClimb_17 (by decide) nI_0 ?_
      refine pE_iconst (v := nI 0) dX12_canClimb_48 rfl ?_
      refine pE_zret dX12_canClimb_49 rfl (by first | exact Or.inl nI_0 | exact Or.inr nI_1' | assumption) rfl ?_
      exact h0 hno2
  · have hno2 : ∀ j s nt c, ¬ CCw H T te by_ ca ni j s nt c := fun j s nt c hc => hno j hc.2.1 hc.1
    refine pE_if_eq_t (tgt := 48) dX12_canClimb_5 (by decide) nI_0 ?_
    refine pE_iconst (v := nI 0) dX12_canClimb_48 rfl ?_
    refine pE_zret dX12_canClimb_49 rfl (by first | exact Or.inl nI_0 | exact Or.inr nI_1' | assumption) rfl ?_
    exact h0 hno2
set_option maxHeartbeats 4000000 in
set_option maxRecDepth 100000 in
theorem M_X12_worth {l : Launch} {X : pX} {t g : Nat} {I : pHI} {J : pHJ} {Q : pQ} {te by_ ca ni w : Int32} {H T : pN} {p pc : pP} (hH : mH H I) (hr : rH H) (hrT : rS 999 H T) (hS : mS 90 T I) (hF : mF 0 p I) (hw : p = [] ∨ wfp p 0) (hpc : fR 0 p pc) (ha : ∀ j s nt c, CCw H T te by_ ca ni j s nt c → w = nI 0 → ∀ I1, sm I I1 → Q (some (.int (nI (cntN pc T s (hvN H c) nt (T 24))))) I1 J (pR t g)) (hb : ∀ j s nt c, CCw H T te by_ ca ni j s nt c → w = nI 1 → ∀ I1, sm I I1 → Q (some (.int (nI (brN s (hvN H c))))) I1 J (pR t g)) (h0 : ((∀ j s nt c, ¬ CCw H T te by_ ca ni j s nt c) ∨ (w ≠ nI 0 ∧ w ≠ nI 1)) → ∀ I1, sm I I1 → Q (some (.int (-1))) I1 J (pR t g)) : pM l X yX12_worth mX12_worth 4 [.ref 67, .int te, .int by_, .int ca, .int ni, .int w] pK pK I J (pR t g) Q := by
  refine pM_of rfl (fun h => by cases h) rfl pKM (Nat.le_of_ble_eq_true rfl) ?_
  refine pE_aload_n dX12_worth_0 rfl rfl ?_
  refine pE_callV (d' := 0) (as := []) dX12_worth_1 lkX12_394 (cwX12_load _ _) ivX12_load ⟨_, rfl, rfl⟩ (by first | assumption | rfl) rfl rfl (Nat.le_of_ble_eq_true rfl) (by decide) pKK ?_
  refine M_X12_load ?_
  refine pE_aload_n dX12_worth_4 rfl rfl ?_
  refine pE_iload_n dX12_worth_5 rfl rfl ?_
  refine pE_iload_n dX12_worth_6 rfl rfl ?_
  refine pE_iload_n dX12_worth_7 rfl rfl ?_
  refine pE_iload dX12_worth_8 rfl ?_
  refine pE_callV (d' := 2) (as := [_, _, _, _]) dX12_worth_10 lkX12_400 (cwX12_canClimb _ _) ivX12_canClimb ⟨_, rfl, rfl⟩ (by first | assumption | rfl) rfl rfl (Nat.le_of_ble_eq_true rfl) (by decide) pKK ?_
  refine M_X12_canClimb (hH.sm sm.load) hr hrT hS.load (fun j s nt c hcc => ?_) (fun hno => ?_)
  · obtain ⟨e1, e2, e3, e4, e5, e6, e7, e8⟩ := id hcc
    subst e1 e3 e5
    refine pE_if_eq_f (tgt := 26) dX12_worth_13 (by decide) nI_1n0 ?_
    refine pE_iload dX12_worth_16 rfl ?_
    refine pE_iconst (v := nI 0) dX12_worth_18 rfl ?_
    refine pE_iconst (v := nI 1) dX12_worth_19 rfl ?_
    refine pE_callS (d' := 0) (as := [_, _, _]) dX12_worth_20 lkX12_368 (cwX12_isIn _ _) svX12_isIn rfl rfl (Nat.le_of_ble_eq_true rfl) (by decide) pKK ?_
    refine M_X12_isIn  (fun k1 k2 => ?_) (fun k => ?_)
    · obtain ⟨v, e, hv0, hv1⟩ := in_rng (by omega) (by omega) k1 k2
      subst e
      refine pE_if_ne_t (tgt := 28) dX12_worth_23 (by decide) nI_1n0 ?_
      refine pE_iload dX12_worth_28 rfl ?_
      refine pE_if_ne (tgt := 44) dX12_worth_30 (by decide) (fun h30 => ?_) (fun h30 => ?_)
      · have g30 := nq_ne0 (by omega) h30
        refine pE_aload_n dX12_worth_44 rfl rfl ?_
        refine pE_iload_n dX12_worth_45 rfl rfl ?_
        refine pE_iload_n dX12_worth_46 rfl rfl ?_
        refine pE_callV (d' := 0) (as := [_, _]) dX12_worth_47 lkX12_385 (cwX12_breathFor _ _) ivX12_breathFor ⟨_, rfl, rfl⟩ (by first | assumption | rfl) rfl rfl (Nat.le_of_ble_eq_true rfl) (by decide) pKK ?_
        refine M_X12_breathFor_o (hH.sm sm.load) hr hcc.o ?_
        refine pE_iret dX12_worth_50 rfl rfl ?_
        first | exact ha j s nt c hcc (by rw [g30]) _ (sm.load.tr hb1.sm) | exact hb j s nt c hcc (by rw [show v = 1 by omega]) _ sm.load
      · have g30 := nq_eq0 (by omega) h30
        refine pE_aload_n dX12_worth_33 rfl rfl ?_
        refine pE_iload_n dX12_worth_34 rfl rfl ?_
        refine pE_iload_n dX12_worth_35 rfl rfl ?_
        refine pE_iload dX12_worth_36 rfl ?_
        refine pE_callV (d' := 3) (as := [_, _, _]) dX12_worth_38 lkX12_404 (cwX12_countOf _ _) ivX12_countOf ⟨_, rfl, rfl⟩ (by first | assumption | rfl) rfl rfl (Nat.le_of_ble_eq_true rfl) (by decide) pKK ?_
        refine M_X12_countOf_o (hH.sm sm.load) hr hcc.o (hF.sm sm.load) hw hpc hS.load (fun I1 hb1 => ?_)
        refine pE_goto (tgt := 50) dX12_worth_41 (by decide) ?_
        refine pE_iret dX12_worth_50 rfl rfl ?_
        first | exact ha j s nt c hcc (by rw [g30]) _ (sm.load.tr hb1.sm) | exact hb j s nt c hcc (by rw [show v = 1 by omega]) _ sm.load
    · have hnow := out_rng (by omega) (by omega) k
      refine pE_if_ne_f (tgt := 28) dX12_worth_23 (by decide) nI_0 ?_
      refine pE_iconst (v := -1) dX12_worth_26 rfl ?_
      refine pE_iret dX12_worth_27 rfl rfl ?_
      first | exact h0 (Or.inl hno) _ sm.load | exact h0 (Or.inr ⟨hnow 0 (by omega) (by omega), hnow 1 (by omega) (by omega)⟩) _ sm.load
  · refine pE_if_eq_t (tgt := 26) dX12_worth_13 (by decide) nI_0 ?_
    refine pE_iconst (v := -1) dX12_worth_26 rfl ?_
    refine pE_iret dX12_worth_27 rfl rfl ?_
    first | exact h0 (Or.inl hno) _ sm.load | exact h0 (Or.inr ⟨hnow 0 (by omega) (by omega), hnow 1 (by omega) (by omega)⟩) _ sm.load
set_option maxHeartbeats 4000000 in
set_option maxRecDepth 100000 in
theorem M_X12_climb {l : Launch} {X : pX} {t g : Nat} {I : pHI} {J : pHJ} {Q : pQ} {te by_ ca ni : Int32} {H T : pN} {p pc : pP} {d u : Nat} {G : Nat → pN} (hH : mH H I) (hr : rH H) (hrT : rS 999 H T) (hS : mS 90 T I) (hF : mF 0 p I) (hw : p = [] ∨ wfp p 0) (hpc : fR 0 p pc) (hK : mK I d u G) (hG : ∀ q, G d q = T q) (h1 : ∀ j s nt c, CCw H T te by_ ca ni j s nt c → ∀ I1, sM I I1 → mS 90 (clmN pc H T j s nt c) I1 → mK I1 (min (d + 1) 40) 0 (actG d G (clmN pc H T j s nt c)) → Q (some (.int (nI (clmC pc H T j s nt c)))) I1 J (pR t g)) (h0 : (∀ j s nt c, ¬ CCw H T te by_ ca ni j s nt c) → ∀ I1, sm I I1 → Q (some (.int (-1))) I1 J (pR t g)) : pM l X yX12_climb mX12_climb 4 [.ref 67, .int te, .int by_, .int ca, .int ni] pK pK I J (pR t g) Q := by
  refine pM_of rfl (fun h => by cases h) rfl pKM (Nat.le_of_ble_eq_true rfl) ?_
  refine pE_aload_n dX12_climb_0 rfl rfl ?_
  refine pE_callV (d' := 0) (as := []) dX12_climb_1 lkX12_394 (cwX12_load _ _) ivX12_load ⟨_, rfl, rfl⟩ (by first | assumption | rfl) rfl rfl (Nat.le_of_ble_eq_true rfl) (by decide) pKK ?_
  refine M_X12_load ?_
  refine pE_aload_n dX12_climb_4 rfl rfl ?_
  refine pE_iload_n dX12_climb_5 rfl rfl ?_
  refine pE_iload_n dX12_climb_6 rfl rfl ?_
  refine pE_iload_n dX12_climb_7 rfl rfl ?_
  refine pE_iload dX12_climb_8 rfl ?_
  refine pE_callV (d' := 2) (as := [_, _, _, _]) dX12_climb_10 lkX12_400 (cwX12_canClimb _ _) ivX12_canClimb ⟨_, rfl, rfl⟩ (by first | assumption | rfl) rfl rfl (Nat.le_of_ble_eq_true rfl) (by decide) pKK ?_
  refine M_X12_canClimb (hH.sm sm.load) hr hrT hS.load (fun j s nt c hcc => ?_) (fun hno => ?_)
  · obtain ⟨e1, e2, e3, e4, e5, e6, e7, e8⟩ := id hcc
    have hn8 := hr.2.1
    have hn20 := hr.1.2
    have hrj := hr.2.2.2.2 j (by omega)
    have hsj := hrT.2.2.2.2 j (by omega)
    have h27 := hrT.2.2.1
    have hcl : cntN pc T s (hvN H c) nt (T 24) ≤ 999 := clp_le _ _
    subst e1 e3 e5
    refine pE_if_ne_t (tgt := 18) dX12_climb_13 (by decide) nI_1n0 ?_
    refine pE_aload_n dX12_climb_18 rfl rfl ?_
    refine pE_callV (d' := 0) (as := []) dX12_climb_19 lkX12_407 (cwX12_act _ _) ivX12_act ⟨_, rfl, rfl⟩ (by first | assumption | rfl) rfl rfl (Nat.le_of_ble_eq_true rfl) (by decide) pKK ?_
    refine M_X12_act (T := clmN pc H T j s nt c) (hK.sm sm.load) (fun q hq => by rw [pz_ne _ _ (by decide), hG]; exact hS q hq) (fun I1 hx1 h90 h91 hK1 => ?_)
    have hT1 : mS 91 T I1 := fun q hq => by rw [h91]; exact hS.load q hq
    have hH1 := (hH.sm sm.load).sM hx1
    have hF1 := (hF.sm sm.load).sM hx1
    refine pE_aload_n dX12_climb_22 rfl rfl ?_
    refine pE_getR dX12_climb_23 flX12_88 rfl (by first | assumption | rfl) (by first | assumption | rfl) ?_
    refine pE_bipush (v := nI 27) dX12_climb_26 rfl ?_
    refine pE_aload_n dX12_climb_28 rfl rfl ?_
    refine pE_getR dX12_climb_29 flX12_88 rfl (by first | assumption | rfl) (by first | assumption | rfl) ?_
    refine pE_bipush (v := nI 27) dX12_climb_32 rfl ?_
    refine pE_ialoadN dX12_climb_34 (by first | assumption | rfl) (by first | assumption | omega) (by omega) ?_
    rw [hT1 27 (by omega)]
    refine pE_sipush (v := nI 137) dX12_climb_35 rfl ?_
    refine pE_imulN dX12_climb_38 ?_
    refine pE_bipush (v := nI 71) dX12_climb_39 rfl ?_
    refine pE_iaddN dX12_climb_41 ?_
    refine pE_sipush (v := nI 1000) dX12_climb_42 rfl ?_
    refine pE_iremN dX12_climb_45 (by omega) (by omega) (by omega) ?_
    refine pE_iastoreN dX12_climb_46 (by first | assumption | rfl) (by first | assumption | omega) (by omega) ?_
    refine pE_aload_n dX12_climb_47 rfl rfl ?_
    refine pE_getR dX12_climb_48 flX12_88 rfl (by first | assumption | rfl) (by first | assumption | rfl) ?_
    refine pE_bipush (v := nI 27) dX12_climb_51 rfl ?_
    refine pE_ialoadN dX12_climb_53 (by first | assumption | rfl) (by first | assumption | omega) (by omega) ?_
    rw [pu_at, if_pos ⟨rfl, rfl⟩]
    refine pE_bipush (v := nI 100) dX12_climb_54 rfl ?_
    refine pE_iremN dX12_climb_56 (by omega) (by omega) (by omega) ?_
    refine pE_aload_n dX12_climb_57 rfl rfl ?_
    refine pE_getR dX12_climb_58 flX12_79 rfl (by first | assumption | rfl) (by first | assumption | rfl) ?_
    refine pE_iload_n dX12_climb_61 rfl rfl ?_
    refine pE_ialoadN dX12_climb_62 (by first | assumption | rfl) (by first | assumption | omega) (by omega) ?_
    rw [pu_ne _ _ _ (by decide), (hH1.2.2.2 j (by omega)).2.2.2.2]
    refine pE_icmp_ge (tgt := 70) dX12_climb_63 (by decide) (fun h63 => ?_) (fun h63 => ?_)
    · have g63 := nq_le (by omega) (by omega) h63
      refine pE_aload_n dX12_climb_70 rfl rfl ?_
      refine pE_iload_n dX12_climb_71 rfl rfl ?_
      refine pE_iload_n dX12_climb_72 rfl rfl ?_
      refine pE_iload dX12_climb_73 rfl ?_
      refine pE_callV (d' := 3) (as := [_, _, _]) dX12_climb_75 lkX12_404 (cwX12_countOf _ _) ivX12_countOf ⟨_, rfl, rfl⟩ (by first | assumption | rfl) rfl rfl (Nat.le_of_ble_eq_true rfl) (by decide) pKK ?_
      refine M_X12_countOf_o (T := up1 T 27 (seedN T)) (hH1.off (fun c k e => by rw [pu_ne _ _ _ (by omega)])) hr hcc.o (hF1.sm sm.rf.pu) hw hpc (hT1.pu) (fun I3 hb3 => ?_)
      have hx3 : sm (pu I1 91 27 (nI (seedN T))) I3 := hb3.sm
      have hT3 : mS 91 (up1 T 27 (seedN T)) I3 := (hT1.pu).sb (Or.inr rfl) hb3
      have hcc0 : clmC pc H T j s nt c = cntN pc (up1 T 27 (seedN T)) s (hvN H c) nt (up1 T 27 (seedN T) 24) := if_neg (by show ¬ seedN T % 100 < H (40 + j); unfold seedN; omega)
      refine pE_istore (lc' := [_, _, _, _, _, some (.int _)]) dX12_climb_78 (Nat.le_of_ble_eq_true rfl) rfl rfl ?_
      rw [show nI (cntN pc (up1 T 27 (seedN T)) s (hvN H c) nt (up1 T 27 (seedN T) 24)) = nI (clmC pc H T j s nt c) by rw [hcc0]]
      have hH3 : mH H I3 := (hH1.off (I' := pu I1 91 27 (nI (seedN T))) (fun c k e => by rw [pu_ne _ _ _ (by omega)])).sm hx3
      refine pE_aload_n dX12_climb_80 rfl rfl ?_
      refine pE_iload_n dX12_climb_81 rfl rfl ?_
      refine pE_iload_n dX12_climb_82 rfl rfl ?_
      refine pE_iload_n dX12_climb_83 rfl rfl ?_
      refine pE_iload dX12_climb_84 rfl ?_
      refine pE_callV (d' := 1) (as := [_, _, _, _]) dX12_climb_86 lkX12_410 (cwX12_goClimb _ _) ivX12_goClimb ⟨_, rfl, rfl⟩ (by first | assumption | rfl) rfl rfl (Nat.le_of_ble_eq_true rfl) (by decide) pKK ?_
      refine M_X12_goClimb_o (T := up1 T 27 (seedN T)) (cnt := clmC pc H T j s nt c) (hH3) hr hcc.o hT3 (by omega) (by simp only [up1]; rw [if_neg (by omega)]; exact hsj.2.1) (by unfold clmC; split <;> omega) (by omega) (by simp only [up1]; rw [if_neg (by omega)]; exact e8) (fun I5 hx4 hT6 => ?_)
      have hx5 : sm (pu I1 91 27 (nI (seedN T))) I5 := hx3.tr hx4
      refine pE_aload_n dX12_climb_89 rfl rfl ?_
      refine pE_callV (d' := 0) (as := []) dX12_climb_90 lkX12_414 (cwX12_keepAir _ _) ivX12_keepAir ⟨_, rfl, rfl⟩ (by first | assumption | rfl) rfl rfl (Nat.le_of_ble_eq_true rfl) (by decide) pKK ?_
      refine M_X12_keepAir ?_
      refine pE_iload dX12_climb_93 rfl ?_
      refine pE_iret dX12_climb_95 rfl rfl ?_
      exact h1 j s nt c hcc _ ((((sm.load.sM.tr hx1).tr ((sM.rf.pu (by omega) : sM I1 (pu I1 91 27 (nI (seedN T)))))).tr hx5.sM).pz (by omega)) (fun q hq => by rw [pz_eq, if_pos hq]; exact hT6 q hq) (((hK1.off (fun c k e => by rw [pu_ne _ _ _ (by omega)])).sm hx5).off (fun c k e => by rw [pz_ne _ _ (by omega)]))
    · have g63 := nq_nle (by omega) (by omega) h63
      refine pE_iconst (v := nI 0) dX12_climb_66 rfl ?_
      refine pE_goto (tgt := 78) dX12_climb_67 (by decide) ?_
      refine pE_istore (lc' := [_, _, _, _, _, some (.int _)]) dX12_climb_78 (Nat.le_of_ble_eq_true rfl) rfl rfl ?_
      have hx3 : sm (pu I1 91 27 (nI (seedN T))) (pu I1 91 27 (nI (seedN T))) := sm.rf
      have hT3 : mS 91 (up1 T 27 (seedN T)) (pu I1 91 27 (nI (seedN T))) := hT1.pu
      have hcc0 : clmC pc H T j s nt c = 0 := if_pos (by show seedN T % 100 < H (40 + j); unfold seedN; omega)
      rw [show (nI 0 : Int32) = nI (clmC pc H T j s nt c) by rw [hcc0]]
      have hH3 : mH H (pu I1 91 27 (nI (seedN T))) := (hH1.off (I' := pu I1 91 27 (nI (seedN T))) (fun c k e => by rw [pu_ne _ _ _ (by omega)])).sm hx3
      refine pE_aload_n dX12_climb_80 rfl rfl ?_
      refine pE_iload_n dX12_climb_81 rfl rfl ?_
      refine pE_iload_n dX12_climb_82 rfl rfl ?_
      refine pE_iload_n dX12_climb_83 rfl rfl ?_
      refine pE_iload dX12_climb_84 rfl ?_
      refine pE_callV (d' := 1) (as := [_, _, _, _]) dX12_climb_86 lkX12_410 (cwX12_goClimb _ _) ivX12_goClimb ⟨_, rfl, rfl⟩ (by first | assumption | rfl) rfl rfl (Nat.le_of_ble_eq_true rfl) (by decide) pKK ?_
      refine M_X12_goClimb_o (T := up1 T 27 (seedN T)) (cnt := clmC pc H T j s nt c) (hH3) hr hcc.o hT3 (by omega) (by simp only [up1]; rw [if_neg (by omega)]; exact hsj.2.1) (by unfold clmC; split <;> omega) (by omega) (by simp only [up1]; rw [if_neg (by omega)]; exact e8) (fun I5 hx4 hT6 => ?_)
      have hx5 : sm (pu I1 91 27 (nI (seedN T))) I5 := hx3.tr hx4
      refine pE_aload_n dX12_climb_89 rfl rfl ?_
      refine pE_callV (d' := 0) (as := []) dX12_climb_90 lkX12_414 (cwX12_keepAir _ _) ivX12_keepAir ⟨_, rfl, rfl⟩ (by first | assumption | rfl) rfl rfl (Nat.le_of_ble_eq_true rfl) (by decide) pKK ?_
      refine M_X12_keepAir ?_
      refine pE_iload dX12_climb_93 rfl ?_
      refine pE_iret dX12_climb_95 rfl rfl ?_
      exact h1 j s nt c hcc _ ((((sm.load.sM.tr hx1).tr ((sM.rf.pu (by omega) : sM I1 (pu I1 91 27 (nI (seedN T)))))).tr hx5.sM).pz (by omega)) (fun q hq => by rw [pz_eq, if_pos hq]; exact hT6 q hq) (((hK1.off (fun c k e => by rw [pu_ne _ _ _ (by omega)])).sm hx5).off (fun c k e => by rw [pz_ne _ _ (by omega)]))
  · refine pE_if_ne_f (tgt := 18) dX12_climb_13 (by decide) nI_0 ?_
    refine pE_iconst (v := -1) dX12_climb_16 rfl ?_
    refine pE_iret dX12_climb_17 rfl rfl ?_
    exact h0 hno _ sm.load
set_option maxHeartbeats 4000000 in
set_option maxRecDepth 100000 in
theorem M_X12_give {l : Launch} {X : pX} {t g : Nat} {I : pHI} {J : pHJ} {Q : pQ} {x y z : Int32} {H T : pN} {d u : Nat} {G : Nat → pN} (hH : mH H I) (hr : rH H) (hrT : rS 999 H T) (hS : mS 90 T I) (hK : mK I d u G) (hG : ∀ q, G d q = T q) (h1 : ∀ a b m, GVw H T x y z a b m → ∀ I1, sM I I1 → mS 90 (givN T a b m) I1 → mK I1 (min (d + 1) 40) 0 (actG d G (givN T a b m)) → Q (some (.int (nI (T (8 + b) + m)))) I1 J (pR t g)) (h0 : (∀ a b m, ¬ GVw H T x y z a b m) → Q (some (.int (-1))) I J (pR t g)) : pM l X yX12_give mX12_give 2 [.ref 67, .int x, .int y, .int z] pK pK I J (pR t g) Q := by
  have hn8 := hr.2.1
  refine pM_of rfl (fun h => by cases h) rfl pKM (Nat.le_of_ble_eq_true rfl) ?_
  refine pE_aload_n dX12_give_0 rfl rfl ?_
  refine pE_iload_n dX12_give_1 rfl rfl ?_
  refine pE_callV (d' := 1) (as := [_]) dX12_give_2 lkX12_382 (cwX12_isTenant _ _) ivX12_isTenant ⟨_, rfl, rfl⟩ (by first | assumption | rfl) rfl rfl (Nat.le_of_ble_eq_true rfl) (by decide) pKK ?_
  refine M_X12_isTenant (H := H) hH.2.1 hn8 (fun a ha e1 => ?_) (fun hno => ?_)
  · subst e1
    have hsa := hrT.2.2.2.2 a (by omega)
    refine pE_if_eq_f (tgt := 55) dX12_give_5 (by decide) nI_1n0 ?_
    refine pE_aload_n dX12_give_8 rfl rfl ?_
    refine pE_iload_n dX12_give_9 rfl rfl ?_
    refine pE_callV (d' := 1) (as := [_]) dX12_give_10 lkX12_382 (cwX12_isTenant _ _) ivX12_isTenant ⟨_, rfl, rfl⟩ (by first | assumption | rfl) rfl rfl (Nat.le_of_ble_eq_true rfl) (by decide) pKK ?_
    refine M_X12_isTenant (H := H) hH.2.1 hn8 (fun b hb e2 => ?_) (fun hno => ?_)
    · subst e2
      have hsb := hrT.2.2.2.2 b (by omega)
      refine pE_if_eq_f (tgt := 55) dX12_give_13 (by decide) nI_1n0 ?_
      refine pE_iload_n dX12_give_16 rfl rfl ?_
      refine pE_iload_n dX12_give_17 rfl rfl ?_
      refine pE_icmp_eq (tgt := 55) dX12_give_18 (by decide) (fun h18 => ?_) (fun h18 => ?_)
      · have g18 := nq_eq (by omega) (by omega) h18
        have hn2 : ∀ a2 b2 m, ¬ GVw H T (nI a) (nI b) z a2 b2 m := fun a2 b2 m hg => by
          obtain ⟨d1, d1q, d2, d2q, d0, d3, d4, d5, d6⟩ := hg
          have f1 := nq_eq (by omega) (by omega) d1
          have f2 := nq_eq (by omega) (by omega) d2
          subst f1 f2
          exact d0 g18
        refine pE_iconst (v := -1) dX12_give_55 rfl ?_
        refine pE_iret dX12_give_56 rfl rfl ?_
        exact h0 hn2
      · have g18 := nq_ne (by omega) (by omega) h18
        refine pE_iload_n dX12_give_21 rfl rfl ?_
        refine pE_iconst (v := nI 1) dX12_give_22 rfl ?_
        refine pE_aload_n dX12_give_23 rfl rfl ?_
        refine pE_getR dX12_give_24 flX12_85 rfl (by first | assumption | rfl) (by first | assumption | rfl) ?_
        refine pE_bipush (v := nI 8) dX12_give_27 rfl ?_
        refine pE_iload_n dX12_give_29 rfl rfl ?_
        refine pE_iaddN dX12_give_30 ?_
        refine pE_ialoadN dX12_give_31 (by first | assumption | rfl) (by first | assumption | omega) (by omega) ?_
        rw [hS (8 + a) (by omega)]
        refine pE_callS (d' := 0) (as := [_, _, _]) dX12_give_32 lkX12_368 (cwX12_isIn _ _) svX12_isIn rfl rfl (Nat.le_of_ble_eq_true rfl) (by decide) pKK ?_
        refine M_X12_isIn  (fun k1 k2 => ?_) (fun k => ?_)
        · obtain ⟨m, e, hm1, hm2⟩ := in_rng (by omega) (by omega) k1 k2
          subst e
          refine pE_if_eq_f (tgt := 55) dX12_give_35 (by decide) nI_1n0 ?_
          refine pE_aload_n dX12_give_38 rfl rfl ?_
          refine pE_getR dX12_give_39 flX12_85 rfl (by first | assumption | rfl) (by first | assumption | rfl) ?_
          refine pE_bipush (v := nI 8) dX12_give_42 rfl ?_
          refine pE_iload_n dX12_give_44 rfl rfl ?_
          refine pE_iaddN dX12_give_45 ?_
          refine pE_ialoadN dX12_give_46 (by first | assumption | rfl) (by first | assumption | omega) (by omega) ?_
          rw [hS (8 + b) (by omega)]
          refine pE_iload_n dX12_give_47 rfl rfl ?_
          refine pE_iaddN dX12_give_48 ?_
          refine pE_sipush (v := nI 9999) dX12_give_49 rfl ?_
          refine pE_icmp_le (tgt := 57) dX12_give_52 (by decide) (fun h52 => ?_) (fun h52 => ?_)
          · have g52 := nq_le (by omega) (by omega) h52
            refine pE_aload_n dX12_give_57 rfl rfl ?_
            refine pE_callV (d' := 0) (as := []) dX12_give_58 lkX12_407 (cwX12_act _ _) ivX12_act ⟨_, rfl, rfl⟩ (by first | assumption | rfl) rfl rfl (Nat.le_of_ble_eq_true rfl) (by decide) pKK ?_
            refine M_X12_act (T := givN T a b m) hK (fun q hq => by rw [hG]; exact hS q hq) (fun I1 hx1 h90 h91 hK1 => ?_)
            refine pE_aload_n dX12_give_61 rfl rfl ?_
            refine pE_getR dX12_give_62 flX12_85 rfl (by first | assumption | rfl) (by first | assumption | rfl) ?_
            refine pE_bipush (v := nI 8) dX12_give_65 rfl ?_
            refine pE_iload_n dX12_give_67 rfl rfl ?_
            refine pE_iaddN dX12_give_68 ?_
            refine pE_dup2 dX12_give_69 ?_
            refine pE_ialoadN dX12_give_70 (by first | assumption | rfl) (by first | assumption | omega) (by omega) ?_
            rw [h90, hS (8 + a) (by omega)]
            refine pE_iload_n dX12_give_71 rfl rfl ?_
            refine pE_isubN dX12_give_72 (by omega) ?_
            refine pE_iastoreN dX12_give_73 (by first | assumption | rfl) (by first | assumption | omega) (by omega) ?_
            refine pE_aload_n dX12_give_74 rfl rfl ?_
            refine pE_getR dX12_give_75 flX12_85 rfl (by first | assumption | rfl) (by first | assumption | rfl) ?_
            refine pE_bipush (v := nI 8) dX12_give_78 rfl ?_
            refine pE_iload_n dX12_give_80 rfl rfl ?_
            refine pE_iaddN dX12_give_81 ?_
            refine pE_dup2 dX12_give_82 ?_
            refine pE_ialoadN dX12_give_83 (by first | assumption | rfl) (by first | assumption | omega) (by omega) ?_
            rw [(by rw [pu_at, if_neg (by omega), h90]; exact hS (8 + b) (by omega) : pu I1 90 (8 + a) (nI (T (8 + a) - m)) 90 (8 + b) = nI (T (8 + b)))]
            refine pE_iload_n dX12_give_84 rfl rfl ?_
            refine pE_iaddN dX12_give_85 ?_
            refine pE_iastoreN dX12_give_86 (by first | assumption | rfl) (by first | assumption | omega) (by omega) ?_
            refine pE_aload_n dX12_give_87 rfl rfl ?_
            refine pE_getR dX12_give_88 flX12_85 rfl (by first | assumption | rfl) (by first | assumption | rfl) ?_
            refine pE_bipush (v := nI 8) dX12_give_91 rfl ?_
            refine pE_iload_n dX12_give_93 rfl rfl ?_
            refine pE_iaddN dX12_give_94 ?_
            refine pE_ialoadN dX12_give_95 (by first | assumption | rfl) (by first | assumption | omega) (by omega) ?_
            rw [pu_at, if_pos ⟨rfl, rfl⟩]
            refine pE_iret dX12_give_96 rfl rfl ?_
            refine h1 a b m ⟨rfl, ha, rfl, hb, g18, rfl, hm1, hm2, by omega⟩ _ ((hx1.pu (by omega)).pu (by omega)) ?_ (hK1.off (fun c k e => by rw [pu_ne _ _ _ (by omega), pu_ne _ _ _ (by omega)]))
            have hT1 : mS 90 T I1 := fun q hq => by rw [h90]; exact hS q hq
            exact (hT1.pu).pu
          · have g52 := nq_nle (by omega) (by omega) h52
            have hn2 : ∀ a2 b2 m2, ¬ GVw H T (nI a) (nI b) (nI m) a2 b2 m2 := fun a2 b2 m2 hg => by
              obtain ⟨d1, d1q, d2, d2q, d0, d3, d4, d5, d6⟩ := hg
              have f1 := nq_eq (by omega) (by omega) d1
              have f2 := nq_eq (by omega) (by omega) d2
              subst f1 f2
              have f3 := nq_eq (by omega) (by omega) d3
              omega
            refine pE_iconst (v := -1) dX12_give_55 rfl ?_
            refine pE_iret dX12_give_56 rfl rfl ?_
            exact h0 hn2
        · have hno := out_rng (by omega) (by omega) k
          have hn2 : ∀ a2 b2 m, ¬ GVw H T (nI a) (nI b) z a2 b2 m := fun a2 b2 m hg => by
            obtain ⟨d1, d1q, d2, d2q, d0, d3, d4, d5, d6⟩ := hg
            have f1 := nq_eq (by omega) (by omega) d1
            have f2 := nq_eq (by omega) (by omega) d2
            subst f1 f2
            exact hno m d4 d5 d3
          refine pE_if_eq_t (tgt := 55) dX12_give_35 (by decide) nI_0 ?_
          refine pE_iconst (v := -1) dX12_give_55 rfl ?_
          refine pE_iret dX12_give_56 rfl rfl ?_
          exact h0 hn2
    · have hn2 : ∀ a2 b m, ¬ GVw H T (nI a) y z a2 b m := fun a b m hg => hno b hg.2.2.2.1 hg.2.2.1
      refine pE_if_eq_t (tgt := 55) dX12_give_13 (by decide) nI_0 ?_
      refine pE_iconst (v := -1) dX12_give_55 rfl ?_
      refine pE_iret dX12_give_56 rfl rfl ?_
      exact h0 hn2
  · have hn2 : ∀ a b m, ¬ GVw H T x y z a b m := fun a b m hg => hno a hg.2.1 hg.1
    refine pE_if_eq_t (tgt := 55) dX12_give_5 (by decide) nI_0 ?_
    refine pE_iconst (v := -1) dX12_give_55 rfl ?_
    refine pE_iret dX12_give_56 rfl rfl ?_
    exact h0 hn2
set_option maxHeartbeats 4000000 in
set_option maxRecDepth 100000 in
theorem M_X12_week {l : Launch} {X : pX} {t g : Nat} {I : pHI} {J : pHJ} {Q : pQ} {H T : pN} {p pc : pP} {d u : Nat} {G : Nat → pN} (hH : mH H I) (hr : rH H) (hrT : rS 999 H T) (hS : mS 90 T I) (hF : mF 1 p I) (hw : p = [] ∨ wfp p 0) (hpc : fR 1 p pc) (hK : mK I d u G) (hG : ∀ q, G d q = T q) (h1 : T 26 < 999 → ∀ I1, sM I I1 → mS 90 (weekN pc H T) I1 → mK I1 (min (d + 1) 40) 0 (actG d G (weekN pc H T)) → Q (some (.int (nI (weekN pc H T 25)))) I1 J (pR t g)) (h0 : ¬ T 26 < 999 → Q (some (.int (-1))) I J (pR t g)) : pM l X yX12_week mX12_week 5 [.ref 67] pK pK I J (pR t g) Q := by
  have hb26 := hrT.2.1
  refine pM_of rfl (fun h => by cases h) rfl pKM (Nat.le_of_ble_eq_true rfl) ?_
  refine pE_aload_n dX12_week_0 rfl rfl ?_
  refine pE_getR dX12_week_1 flX12_85 rfl (by first | assumption | rfl) (by first | assumption | rfl) ?_
  refine pE_bipush (v := nI 26) dX12_week_4 rfl ?_
  refine pE_ialoadN dX12_week_6 (by first | assumption | rfl) (by first | assumption | omega) (by omega) ?_
  rw [hS 26 (by omega)]
  refine pE_sipush (v := nI 999) dX12_week_7 rfl ?_
  refine pE_icmp_ne (tgt := 15) dX12_week_10 (by decide) (fun h10 => ?_) (fun h10 => ?_)
  · have g10 := nq_ne (by omega) (by omega) h10
    refine pE_aload_n dX12_week_15 rfl rfl ?_
    refine pE_callV (d' := 0) (as := []) dX12_week_16 lkX12_407 (cwX12_act _ _) ivX12_act ⟨_, rfl, rfl⟩ (by first | assumption | rfl) rfl rfl (Nat.le_of_ble_eq_true rfl) (by decide) pKK ?_
    refine M_X12_act (T := weekN pc H T) hK (fun q hq => by rw [hG]; exact hS q hq) (fun I1 hx1 h90 h91 hK1 => ?_)
    have hT1 : mS 90 T I1 := fun q hq => by rw [h90]; exact hS q hq
    refine pE_aload_n dX12_week_19 rfl rfl ?_
    refine pE_callV (d' := 0) (as := []) dX12_week_20 lkX12_394 (cwX12_load _ _) ivX12_load ⟨_, rfl, rfl⟩ (by first | assumption | rfl) rfl rfl (Nat.le_of_ble_eq_true rfl) (by decide) pKK ?_
    refine M_X12_load ?_
    refine pE_aload_n dX12_week_23 rfl rfl ?_
    refine pE_callV (d' := 4) (as := []) dX12_week_24 lkX12_417 (cwX12_goWeek _ _) ivX12_goWeek ⟨_, rfl, rfl⟩ (by first | assumption | rfl) rfl rfl (Nat.le_of_ble_eq_true rfl) (by decide) pKK ?_
    refine M_X12_goWeek ((hH.sM hx1).sm sm.load) hr hT1.load ((hF.sM hx1).sm sm.load) hw hpc hrT (fun I2 hx2 hT2 => ?_)
    refine pE_aload_n dX12_week_27 rfl rfl ?_
    refine pE_callV (d' := 0) (as := []) dX12_week_28 lkX12_414 (cwX12_keepAir _ _) ivX12_keepAir ⟨_, rfl, rfl⟩ (by first | assumption | rfl) rfl rfl (Nat.le_of_ble_eq_true rfl) (by decide) pKK ?_
    refine M_X12_keepAir ?_
    refine pE_aload_n dX12_week_31 rfl rfl ?_
    refine pE_getR dX12_week_32 flX12_85 rfl (by first | assumption | rfl) (by first | assumption | rfl) ?_
    refine pE_bipush (v := nI 25) dX12_week_35 rfl ?_
    refine pE_ialoadN dX12_week_37 (by first | assumption | rfl) (by first | assumption | omega) (by omega) ?_
    rw [pz_eq, if_pos (by omega), hT2 25 (by omega)]
    refine pE_iret dX12_week_38 rfl rfl ?_
    exact h1 (by omega) _ (((hx1.tr sm.load.sM).tr hx2.sM).pz (by omega)) (fun q hq => by rw [pz_eq, if_pos hq]; exact hT2 q hq) (((hK1.sm sm.load).sm hx2).off (fun c k e => by rw [pz_ne _ _ (by omega)]))
  · have g10 := nq_eq (by omega) (by omega) h10
    refine pE_iconst (v := -1) dX12_week_13 rfl ?_
    refine pE_iret dX12_week_14 rfl rfl ?_
    exact h0 (by omega)
