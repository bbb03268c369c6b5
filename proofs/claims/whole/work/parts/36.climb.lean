-- needs: 32.kept 33.rel9 34.acts
set_option maxHeartbeats 4000000 in
set_option maxRecDepth 100000 in
theorem M_X2_heavyOf_o {l : Launch} {X : pX} {t g : Nat} {I : pHI} {J : pHJ} {Q : pQ} {o : Nat} {x : Int32} {H : pN} {c : Option Nat} (ho : isH o) (hH : cH o H I) (h8 : H 1 ≤ 8) (hc : cO H x c) (hq : Q (some (.int (nI (hvN H c)))) I J (pR t g)) : pM l X yX2_heavyOf mX2_heavyOf 1 [.ref o, .int x] pK pK I J (pR t g) Q := by
  refine M_X2_heavyOf ho hH.2.2.1 h8 (fun j hj => (hH.2.2.2.2.2 j hj).2.2.1) (fun j e hj => ?_) (fun hno => ?_)
  · rcases hc with ⟨rfl, e2⟩ | ⟨i, rfl, e2, hi⟩
    · rw [e2] at e; exact absurd e.symm (nI_m1n (by omega))
    · rw [e2] at e
      have := nq_eq (by omega) (by omega) e
      subst this; exact hq
  · rcases hc with ⟨rfl, e2⟩ | ⟨i, rfl, e2, hi⟩
    · exact hq
    · exact absurd e2 (hno i hi)
set_option maxHeartbeats 4000000 in
set_option maxRecDepth 100000 in
theorem L_X2_canClimb {l : Launch} {X : pX} {t g : Nat} {I : pHI} {J : pHJ} {Q : pQ} {ca ni : Int32} {j s : Nat} {c : Option Nat} {H T : pN} (ht : isH t) (hH : cH t H I) (hr : rH H) (hS : cS 33 T I) (hrT : rS 999 H T) (hj : j < H 1) (hs : s ≤ H 0) (hc : cO H ca c) (h1 : brN s (hvN H c) ≤ T j → Q (some (.int (nI 1))) I J (pR t g)) (h0 : ¬ brN s (hvN H c) ≤ T j → Q (some (.int (nI 0))) I J (pR t g)) : pE l X mX2_canClimb 2 pK 52 [some (.ref t), some (.ref 33), some (.int (nI j)), some (.int (nI s)), some (.int ca), some (.int ni)] [] pK I J (pR t g) Q := by
  obtain ⟨fHFht0, fHFht1, fHFht2, fHFht3, fHFht4, fHFht5, fHFht6, fHFht7, fHFht8, fHFht9, fHFht10, fHFht11, fHFht12, fHFht13, fHFht14, fHFht15, fHFht16, fHFht17, fHFht18, fHFht19, fHFht20, fHFht21, fHFht22, fHFht23, fHFht24, fHFht25, fHFht26⟩ := HF t g ht
  have hn8 := hr.2.1
  have hn20 := hr.1.2
  have hv9 := hvN_le hr hc
  have hT40 := (hrT.2.2.2.2 j (by omega)).1
  have hb : brN s (hvN H c) ≤ 80 := by unfold brN; exact Nat.le_trans (Nat.mul_le_mul (by omega : s ≤ 20) (by omega : 1 + hvN H c / 3 ≤ 4)) (by omega)
  refine pE_aload_n dX2_canClimb_52 rfl rfl ?_
  refine pE_iload_n dX2_canClimb_53 rfl rfl ?_
  refine pE_aload_n dX2_canClimb_54 rfl rfl ?_
  refine pE_iload dX2_canClimb_55 rfl ?_
  refine pE_callV (d' := 1) (as := [_]) dX2_canClimb_57 lkX2_100 (cwX2_heavyOf _ _) ivX2_heavyOf ⟨_, rfl, rfl⟩ (by first | assumption | rfl) rfl rfl (Nat.le_of_ble_eq_true rfl) (by decide) pKK ?_
  refine M_X2_heavyOf_o ht hH hn8 hc ?_
  refine pE_callV (d' := 0) (as := [_, _]) dX2_canClimb_60 lkX2_104 (cwX2_breathFor _ _) ivX2_breathFor ⟨_, rfl, rfl⟩ (by first | assumption | rfl) rfl rfl (Nat.le_of_ble_eq_true rfl) (by decide) pKK ?_
  refine M_X2_breathFor ht (by omega) (by omega) ?_
  refine pE_aload_n dX2_canClimb_63 rfl rfl ?_
  refine pE_getR dX2_canClimb_64 flX2_64 rfl (by first | assumption | rfl) (by first | assumption | rfl) ?_
  refine pE_iload_n dX2_canClimb_67 rfl rfl ?_
  refine pE_ialoadN dX2_canClimb_68 (by first | assumption | rfl) (by first | assumption | omega) (by omega) ?_
  rw [(hS.2.2.2.2 j (by omega)).1]
  refine pE_icmp_gt (tgt := 76) dX2_canClimb_69 (by decide) (fun h69 => ?_) (fun h69 => ?_)
  · have g69 := nq_lt (by omega) (by omega) h69
    refine pE_iconst (v := nI 0) dX2_canClimb_76 rfl ?_
    refine pE_zret dX2_canClimb_77 rfl (by first | exact Or.inl nI_0 | exact Or.inr nI_1' | assumption) rfl ?_
    first | exact h1 (by omega) | exact h0 (by omega)
  · have g69 := nq_nlt (by omega) (by omega) h69
    refine pE_iconst (v := nI 1) dX2_canClimb_72 rfl ?_
    refine pE_goto (tgt := 77) dX2_canClimb_73 (by decide) ?_
    refine pE_zret dX2_canClimb_77 rfl (by first | exact Or.inl nI_0 | exact Or.inr nI_1' | assumption) rfl ?_
    first | exact h1 (by omega) | exact h0 (by omega)
set_option maxHeartbeats 4000000 in
set_option maxRecDepth 100000 in
theorem M_X2_canClimb {l : Launch} {X : pX} {t g : Nat} {I : pHI} {J : pHJ} {Q : pQ} {te by_ ca ni : Int32} {H T : pN} (ht : isH t) (hH : cH t H I) (hr : rH H) (hS : cS 33 T I) (hrT : rS 999 H T) (h1 : ∀ j s nt c, CCw H T te by_ ca ni j s nt c → Q (some (.int (nI 1))) I J (pR t g)) (h0 : (∀ j s nt c, ¬ CCw H T te by_ ca ni j s nt c) → Q (some (.int (nI 0))) I J (pR t g)) : pM l X yX2_canClimb mX2_canClimb 2 [.ref t, .ref 33, .int te, .int by_, .int ca, .int ni] pK pK I J (pR t g) Q := by
  obtain ⟨fHFht0, fHFht1, fHFht2, fHFht3, fHFht4, fHFht5, fHFht6, fHFht7, fHFht8, fHFht9, fHFht10, fHFht11, fHFht12, fHFht13, fHFht14, fHFht15, fHFht16, fHFht17, fHFht18, fHFht19, fHFht20, fHFht21, fHFht22, fHFht23, fHFht24, fHFht25, fHFht26⟩ := HF t g ht
  refine pM_of rfl (fun h => by cases h) rfl pKM (Nat.le_of_ble_eq_true rfl) ?_
  have hn8 := hr.2.1
  have hn20 := hr.1.2
  refine pE_aload_n dX2_canClimb_0 rfl rfl ?_
  refine pE_iload_n dX2_canClimb_1 rfl rfl ?_
  refine pE_callV (d' := 0) (as := [_]) dX2_canClimb_2 lkX2_87 (cwX2_hasTenant _ _) ivX2_hasTenant ⟨_, rfl, rfl⟩ (by first | assumption | rfl) rfl rfl (Nat.le_of_ble_eq_true rfl) (by decide) pKK ?_
  refine M_X2_hasTenant (H := H) ht hH.2.2.1 hn8 (fun j hj e => ?_) (fun hno => ?_)
  · subst e
    refine pE_if_eq_f (tgt := 27) dX2_canClimb_5 (by decide) nI_1n0 ?_
    refine pE_aload_n dX2_canClimb_8 rfl rfl ?_
    refine pE_iload_n dX2_canClimb_9 rfl rfl ?_
    refine pE_callV (d' := 0) (as := [_]) dX2_canClimb_10 lkX2_97 (cwX2_canBeClimbed _ _) ivX2_canBeClimbed ⟨_, rfl, rfl⟩ (by first | assumption | rfl) rfl rfl (Nat.le_of_ble_eq_true rfl) (by decide) pKK ?_
    refine M_X2_canBeClimbed (H := H) ht hH.1 hn20 (fun s e hs1 hs2 => ?_) (fun hno => ?_)
    · subst e
      refine pE_if_eq_f (tgt := 27) dX2_canClimb_13 (by decide) nI_1n0 ?_
      refine pE_iload dX2_canClimb_16 rfl ?_
      refine pE_if_eq (tgt := 29) dX2_canClimb_18 (by decide) (fun h18 => ?_) (fun h18 => ?_)
      · obtain ⟨nt, hnt, hnt1⟩ : ∃ nt, ni = nI nt ∧ nt ≤ 1 := ⟨0, h18, by omega⟩
        refine pE_iload dX2_canClimb_29 rfl ?_
        refine pE_iconst (v := -1) dX2_canClimb_31 rfl ?_
        refine pE_icmp_eq (tgt := 52) dX2_canClimb_32 (by decide) (fun h32 => ?_) (fun h32 => ?_)
        · exact L_X2_canClimb (c := none) ht hH hr hS hrT hj hs2 (Or.inl ⟨rfl, h32⟩) (fun hb => h1 j s nt none ⟨rfl, hj, rfl, ⟨hs1, hs2⟩, hnt, hnt1, Or.inl ⟨rfl, h32⟩, hb⟩) (fun hb => h0 (fun j2 s2 n2 c2 hc2 => by
              obtain ⟨e1, e2, e3, e4, e5, -, e7, e8⟩ := hc2
              have d1 := nq_eq (by omega) (by omega) e1
              have d2 := nq_eq (by omega) (by omega) e3
              subst d1 d2
              rcases e7 with ⟨rfl, -⟩ | ⟨i2, rfl, e, hi2, -⟩
              · exact hb e8
              · rw [h32] at e; exact nI_m1n (by omega) e.symm))
        · refine pE_aload_n dX2_canClimb_35 rfl rfl ?_
          refine pE_iload dX2_canClimb_36 rfl ?_
          refine pE_callV (d' := 0) (as := [_]) dX2_canClimb_38 lkX2_87 (cwX2_hasTenant _ _) ivX2_hasTenant ⟨_, rfl, rfl⟩ (by first | assumption | rfl) rfl rfl (Nat.le_of_ble_eq_true rfl) (by decide) pKK ?_
          refine M_X2_hasTenant (H := H) ht hH.2.2.1 hn8 (fun i hi e => ?_) (fun hno => ?_)
          · subst e
            refine pE_if_eq_f (tgt := 50) dX2_canClimb_41 (by decide) nI_1n0 ?_
            refine pE_iload dX2_canClimb_44 rfl ?_
            refine pE_iload_n dX2_canClimb_46 rfl rfl ?_
            refine pE_icmp_ne (tgt := 52) dX2_canClimb_47 (by decide) (fun h47 => ?_) (fun h47 => ?_)
            · have hne : i ≠ j := fun e => h47 (by rw [e])
              exact L_X2_canClimb (c := (some i)) ht hH hr hS hrT hj hs2 (Or.inr ⟨i, rfl, rfl, hi⟩) (fun hb => h1 j s nt (some i) ⟨rfl, hj, rfl, ⟨hs1, hs2⟩, hnt, hnt1, Or.inr ⟨i, rfl, rfl, hi, hne⟩, hb⟩) (fun hb => h0 (fun j2 s2 n2 c2 hc2 => by
                  obtain ⟨e1, e2, e3, e4, e5, -, e7, e8⟩ := hc2
                  have d1 := nq_eq (by omega) (by omega) e1
                  have d2 := nq_eq (by omega) (by omega) e3
                  subst d1 d2
                  rcases e7 with ⟨rfl, e⟩ | ⟨i2, rfl, e, hi2, -⟩
                  · exact nI_m1n (by omega) e
                  · have d3 := nq_eq (by omega) (by omega) e
                    subst d3
                    exact hb e8))
            · have hij := nq_eq (by omega) (by omega) h47
              subst hij
              have hno2 : ∀ j2 s2 nt c, ¬ CCw H T (nI i) (nI s) (nI i) ni j2 s2 nt c := fun j2 s2 nt c hc => by
                obtain ⟨e1, e0, -, -, -, -, e7, -⟩ := hc
                have d1 := nq_eq (by omega) (by omega) e1
                rcases e7 with ⟨-, e⟩ | ⟨i2, -, e, hi2, hne⟩
                · exact nI_m1n (by omega) e
                · have d2 := nq_eq (by omega) (by omega) e
                  omega
              refine pE_iconst (v := nI 0) dX2_canClimb_50 rfl ?_
              refine pE_zret dX2_canClimb_51 rfl (by first | exact Or.inl nI_0 | exact Or.inr nI_1' | assumption) rfl ?_
              exact h0 hno2
          · have hno2 : ∀ j2 s2 nt c, ¬ CCw H T (nI j) (nI s) ca ni j2 s2 nt c := fun j2 s2 nt c hc => by
              rcases hc.2.2.2.2.2.2.1 with ⟨-, e⟩ | ⟨i, -, e, hi, -⟩
              · exact h32 e
              · exact hno i hi e
            refine pE_if_eq_t (tgt := 50) dX2_canClimb_41 (by decide) nI_0 ?_
            refine pE_iconst (v := nI 0) dX2_canClimb_50 rfl ?_
            refine pE_zret dX2_canClimb_51 rfl (by first | exact Or.inl nI_0 | exact Or.inr nI_1' | assumption) rfl ?_
            exact h0 hno2
      · refine pE_iload dX2_canClimb_21 rfl ?_
        refine pE_iconst (v := nI 1) dX2_canClimb_23 rfl ?_
        refine pE_icmp_eq (tgt := 29) dX2_canClimb_24 (by decide) (fun h24 => ?_) (fun h24 => ?_)
        · obtain ⟨nt, hnt, hnt1⟩ : ∃ nt, ni = nI nt ∧ nt ≤ 1 := ⟨1, h24, by omega⟩
          refine pE_iload dX2_canClimb_29 rfl ?_
          refine pE_iconst (v := -1) dX2_canClimb_31 rfl ?_
          refine pE_icmp_eq (tgt := 52) dX2_canClimb_32 (by decide) (fun h32 => ?_) (fun h32 => ?_)
          · exact L_X2_canClimb (c := none) ht hH hr hS hrT hj hs2 (Or.inl ⟨rfl, h32⟩) (fun hb => h1 j s nt none ⟨rfl, hj, rfl, ⟨hs1, hs2⟩, hnt, hnt1, Or.inl ⟨rfl, h32⟩, hb⟩) (fun hb => h0 (fun j2 s2 n2 c2 hc2 => by
                obtain ⟨e1, e2, e3, e4, e5, -, e7, e8⟩ := hc2
                have d1 := nq_eq (by omega) (by omega) e1
                have d2 := nq_eq (by omega) (by omega) e3
                subst d1 d2
                rcases e7 with ⟨rfl, -⟩ | ⟨i2, rfl, e, hi2, -⟩
                · exact hb e8
                · rw [h32] at e; exact nI_m1n (by omega) e.symm))
          · refine pE_aload_n dX2_canClimb_35 rfl rfl ?_
            refine pE_iload dX2_canClimb_36 rfl ?_
            refine pE_callV (d' := 0) (as := [_]) dX2_canClimb_38 lkX2_87 (cwX2_hasTenant _ _) ivX2_hasTenant ⟨_, rfl, rfl⟩ (by first | assumption | rfl) rfl rfl (Nat.le_of_ble_eq_true rfl) (by decide) pKK ?_
            refine M_X2_hasTenant (H := H) ht hH.2.2.1 hn8 (fun i hi e => ?_) (fun hno => ?_)
            · subst e
              refine pE_if_eq_f (tgt := 50) dX2_canClimb_41 (by decide) nI_1n0 ?_
              refine pE_iload dX2_canClimb_44 rfl ?_
              refine pE_iload_n dX2_canClimb_46 rfl rfl ?_
              refine pE_icmp_ne (tgt := 52) dX2_canClimb_47 (by decide) (fun h47 => ?_) (fun h47 => ?_)
              · have hne : i ≠ j := fun e => h47 (by rw [e])
                exact L_X2_canClimb (c := (some i)) ht hH hr hS hrT hj hs2 (Or.inr ⟨i, rfl, rfl, hi⟩) (fun hb => h1 j s nt (some i) ⟨rfl, hj, rfl, ⟨hs1, hs2⟩, hnt, hnt1, Or.inr ⟨i, rfl, rfl, hi, hne⟩, hb⟩) (fun hb => h0 (fun j2 s2 n2 c2 hc2 => by
                    obtain ⟨e1, e2, e3, e4, e5, -, e7, e8⟩ := hc2
                    have d1 := nq_eq (by omega) (by omega) e1
                    have d2 := nq_eq (by omega) (by omega) e3
                    subst d1 d2
                    rcases e7 with ⟨rfl, e⟩ | ⟨i2, rfl, e, hi2, -⟩
                    · exact nI_m1n (by omega) e
                    · have d3 := nq_eq (by omega) (by omega) e
                      subst d3
                      exact hb e8))
              · have hij := nq_eq (by omega) (by omega) h47
                subst hij
                have hno2 : ∀ j2 s2 nt c, ¬ CCw H T (nI i) (nI s) (nI i) ni j2 s2 nt c := fun j2 s2 nt c hc => by
                  obtain ⟨e1, e0, -, -, -, -, e7, -⟩ := hc
                  have d1 := nq_eq (by omega) (by omega) e1
                  rcases e7 with ⟨-, e⟩ | ⟨i2, -, e, hi2, hne⟩
                  · exact nI_m1n (by omega) e
                  · have d2 := nq_eq (by omega) (by omega) e
                    omega
                refine pE_iconst (v := nI 0) dX2_canClimb_50 rfl ?_
                refine pE_zret dX2_canClimb_51 rfl (by first | exact Or.inl nI_0 | exact Or.inr nI_1' | assumption) rfl ?_
                exact h0 hno2
            · have hno2 : ∀ j2 s2 nt c, ¬ CCw H T (nI j) (nI s) ca ni j2 s2 nt c := fun j2 s2 nt c hc => by
                rcases hc.2.2.2.2.2.2.1 with ⟨-, e⟩ | ⟨i, -, e, hi, -⟩
                · exact h32 e
                · exact hno i hi e
              refine pE_if_eq_t (tgt := 50) dX2_canClimb_41 (by decide) nI_0 ?_
              refine pE_iconst (v := nI 0) dX2_canClimb_50 rfl ?_
              refine pE_zret dX2_canClimb_51 rfl (by first | exact Or.inl nI_0 | exact Or.inr nI_1' | assumption) rfl ?_
              exact h0 hno2
        · have hno2 : ∀ j2 s2 nt c, ¬ CCw H T (nI j) (nI s) ca ni j2 s2 nt c := fun j2 s2 nt c hc => by
            obtain ⟨-, -, -, -, e5, e6, -⟩ := hc
            rcases Nat.le_one_iff_eq_zero_or_eq_one.mp e6 with rfl | rfl
            · exact h18 e5
            · exact h24 e5
          refine pE_iconst (v := nI 0) dX2_canClimb_27 rfl ?_
          refine pE_zret dX2_canClimb_28 rfl (by first | exact Or.inl nI_0 | exact Or.inr nI_1' | assumption) rfl ?_
          exact h0 hno2
    · have hno2 : ∀ j2 s nt c, ¬ CCw H T (nI j) by_ ca ni j2 s nt c := fun j2 s nt c hc => hno s hc.2.2.2.1.1 hc.2.2.2.1.2 hc.2.2.1
      refine pE_if_eq_t (tgt := 27) dX2_canClimb_13 (by decide) nI_0 ?_
      refine pE_iconst (v := nI 0) dX2_canClimb_27 rfl ?_
      refine pE_zret dX2_canClimb_28 rfl (by first | exact Or.inl nI_0 | exact Or.inr nI_1' | assumption) rfl ?_
      exact h0 hno2
  · have hno2 : ∀ j s nt c, ¬ CCw H T te by_ ca ni j s nt c := fun j s nt c hc => hno j hc.2.1 hc.1
    refine pE_if_eq_t (tgt := 27) dX2_canClimb_5 (by decide) nI_0 ?_
    refine pE_iconst (v := nI 0) dX2_canClimb_27 rfl ?_
    refine pE_zret dX2_canClimb_28 rfl (by first | exact Or.inl nI_0 | exact Or.inr nI_1' | assumption) rfl ?_
    exact h0 hno2
set_option maxHeartbeats 4000000 in
set_option maxRecDepth 100000 in
theorem M_X11_worth {l : Launch} {X : pX} {t g : Nat} {I : pHI} {J : pHJ} {Q : pQ} {te by_ ca ni w : Int32} {H T : pN} {p : pP} (ht : isH t) (hH : cH t H I) (hr : rH H) (hS : cS 33 T I) (hrT : rS 999 H T) (hF : cF (t + 6) p I) (hw : wfp p 0) (ha : ∀ j s nt c, CCw H T te by_ ca ni j s nt c → w = nI 0 → ∀ I1, sb I I1 → Q (some (.int (nI (cntN p T s (hvN H c) nt (T 24))))) I1 J (pR t g)) (hb : ∀ j s nt c, CCw H T te by_ ca ni j s nt c → w = nI 1 → Q (some (.int (nI (brN s (hvN H c))))) I J (pR t g)) (h0 : ((∀ j s nt c, ¬ CCw H T te by_ ca ni j s nt c) ∨ (w ≠ nI 0 ∧ w ≠ nI 1)) → Q (some (.int (-1))) I J (pR t g)) : pM l X yX11_worth mX11_worth 3 [.ref 0, .int te, .int by_, .int ca, .int ni, .int w] pK pK I J (pR t g) Q := by
  obtain ⟨fHFht0, fHFht1, fHFht2, fHFht3, fHFht4, fHFht5, fHFht6, fHFht7, fHFht8, fHFht9, fHFht10, fHFht11, fHFht12, fHFht13, fHFht14, fHFht15, fHFht16, fHFht17, fHFht18, fHFht19, fHFht20, fHFht21, fHFht22, fHFht23, fHFht24, fHFht25, fHFht26⟩ := HF t g ht
  refine pM_of rfl (fun h => by cases h) rfl pKM (Nat.le_of_ble_eq_true rfl) ?_
  refine pE_aload_n dX11_worth_0 rfl rfl ?_
  refine pE_getR dX11_worth_1 flX11_29 rfl (by first | assumption | rfl) (by first | assumption | rfl) ?_
  refine pE_aload_n dX11_worth_4 rfl rfl ?_
  refine pE_getR dX11_worth_5 flX11_39 rfl (by first | assumption | rfl) (by first | assumption | rfl) ?_
  refine pE_iload_n dX11_worth_8 rfl rfl ?_
  refine pE_iload_n dX11_worth_9 rfl rfl ?_
  refine pE_iload_n dX11_worth_10 rfl rfl ?_
  refine pE_iload dX11_worth_11 rfl ?_
  refine pE_callV (d' := 2) (as := [_, _, _, _, _]) dX11_worth_13 lkX11_152 (cwX2_canClimb _ _) ivX2_canClimb ⟨_, rfl, rfl⟩ (by first | assumption | rfl) rfl rfl (Nat.le_of_ble_eq_true rfl) (by decide) pKK ?_
  refine M_X2_canClimb ht hH hr hS hrT (fun j s nt c hcc => ?_) (fun hno => ?_)
  · obtain ⟨e1, e2, e3, e4, e5, e6, e7, e8⟩ := id hcc
    have hn8 := hr.2.1
    have hn20 := hr.1.2
    have hv9 := hvN_le hr hcc.o
    subst e1 e3 e5
    refine pE_if_ne_t (tgt := 21) dX11_worth_16 (by decide) nI_1n0 ?_
    refine pE_aload_n dX11_worth_21 rfl rfl ?_
    refine pE_getR dX11_worth_22 flX11_29 rfl (by first | assumption | rfl) (by first | assumption | rfl) ?_
    refine pE_iload_n dX11_worth_25 rfl rfl ?_
    refine pE_callV (d' := 1) (as := [_]) dX11_worth_26 lkX11_156 (cwX2_heavyOf _ _) ivX2_heavyOf ⟨_, rfl, rfl⟩ (by first | assumption | rfl) rfl rfl (Nat.le_of_ble_eq_true rfl) (by decide) pKK ?_
    refine M_X2_heavyOf_o ht hH hn8 hcc.o ?_
    refine pE_istore (lc' := [_, _, _, _, _, _, some (.int _)]) dX11_worth_29 (Nat.le_of_ble_eq_true rfl) rfl rfl ?_
    refine pE_iload dX11_worth_31 rfl ?_
    refine pE_if_ne (tgt := 60) dX11_worth_33 (by decide) (fun h33 => ?_) (fun h33 => ?_)
    · refine pE_iload dX11_worth_60 rfl ?_
      refine pE_iconst (v := nI 1) dX11_worth_62 rfl ?_
      refine pE_icmp_ne (tgt := 79) dX11_worth_63 (by decide) (fun h63 => ?_) (fun h63 => ?_)
      · refine pE_iconst (v := -1) dX11_worth_79 rfl ?_
        refine pE_iret dX11_worth_80 rfl rfl ?_
        first | exact hb j s nt c hcc h63 | exact h0 (Or.inr ⟨h33, h63⟩)
      · refine pE_aload_n dX11_worth_66 rfl rfl ?_
        refine pE_getR dX11_worth_67 flX11_29 rfl (by first | assumption | rfl) (by first | assumption | rfl) ?_
        refine pE_iload_n dX11_worth_70 rfl rfl ?_
        refine pE_iload dX11_worth_71 rfl ?_
        refine pE_callV (d' := 0) (as := [_, _]) dX11_worth_73 lkX11_167 (cwX2_breathFor _ _) ivX2_breathFor ⟨_, rfl, rfl⟩ (by first | assumption | rfl) rfl rfl (Nat.le_of_ble_eq_true rfl) (by decide) pKK ?_
        refine M_X2_breathFor ht (by omega) (by omega) ?_
        refine pE_goto (tgt := 80) dX11_worth_76 (by decide) ?_
        refine pE_iret dX11_worth_80 rfl rfl ?_
        first | exact hb j s nt c hcc h63 | exact h0 (Or.inr ⟨h33, h63⟩)
    · refine pE_aload_n dX11_worth_36 rfl rfl ?_
      refine pE_getR dX11_worth_37 flX11_29 rfl (by first | assumption | rfl) (by first | assumption | rfl) ?_
      refine pE_aload_n dX11_worth_40 rfl rfl ?_
      refine pE_getR dX11_worth_41 flX11_39 rfl (by first | assumption | rfl) (by first | assumption | rfl) ?_
      refine pE_iload_n dX11_worth_44 rfl rfl ?_
      refine pE_iload dX11_worth_45 rfl ?_
      refine pE_iload dX11_worth_47 rfl ?_
      refine pE_aload_n dX11_worth_49 rfl rfl ?_
      refine pE_getR dX11_worth_50 flX11_39 rfl (by first | assumption | rfl) (by first | assumption | rfl) ?_
      refine pE_getI dX11_worth_53 flX11_160 rfl (Or.inl rfl) (by first | assumption | rfl) ?_
      rw [hS.1]
      refine pE_callV (d' := 2) (as := [_, _, _, _, _]) dX11_worth_56 lkX11_163 (cwX2_countOf _ _) ivX2_countOf ⟨_, rfl, rfl⟩ (by first | assumption | rfl) rfl rfl (Nat.le_of_ble_eq_true rfl) (by decide) pKK ?_
      refine M_X2_countOf ht (Or.inl rfl) hS hF hw (fun I1 hb1 => ?_)
      refine pE_iret dX11_worth_59 rfl rfl ?_
      exact ha j s nt c hcc h33 I1 hb1
  · refine pE_if_ne_f (tgt := 21) dX11_worth_16 (by decide) nI_0 ?_
    refine pE_iconst (v := -1) dX11_worth_19 rfl ?_
    refine pE_iret dX11_worth_20 rfl rfl ?_
    exact h0 (Or.inl hno)
set_option maxHeartbeats 4000000 in
set_option maxRecDepth 100000 in
theorem M_X11_climb {l : Launch} {X : pX} {t g : Nat} {I : pHI} {J : pHJ} {Q : pQ} {te by_ ca ni : Int32} {H T : pN} {p : pP} {od d u : Nat} {G : Nat → pN} (ht : isH t) (hH : cH t H I) (hr : rH H) (hS : cS 33 T I) (hrT : rS 999 H T) (hF : cF (t + 6) p I) (hw : wfp p 0) (hK : cK I od d u G) (h1 : ∀ j s nt c, CCw H T te by_ ca ni j s nt c → ∀ I1 od1, sK I I1 → cS 33 (clmN p H T j s nt c) I1 → cK I1 od1 (min (d + 1) 40) 0 (actG d G (clmN p H T j s nt c)) → Q (some (.int (nI (clmC p H T j s nt c)))) I1 J (pR t g)) (h0 : (∀ j s nt c, ¬ CCw H T te by_ ca ni j s nt c) → Q (some (.int (-1))) I J (pR t g)) : pM l X yX11_climb mX11_climb 3 [.ref 0, .int te, .int by_, .int ca, .int ni] pK pK I J (pR t g) Q := by
  obtain ⟨fHFht0, fHFht1, fHFht2, fHFht3, fHFht4, fHFht5, fHFht6, fHFht7, fHFht8, fHFht9, fHFht10, fHFht11, fHFht12, fHFht13, fHFht14, fHFht15, fHFht16, fHFht17, fHFht18, fHFht19, fHFht20, fHFht21, fHFht22, fHFht23, fHFht24, fHFht25, fHFht26⟩ := HF t g ht
  refine pM_of rfl (fun h => by cases h) rfl pKM (Nat.le_of_ble_eq_true rfl) ?_
  refine pE_aload_n dX11_climb_0 rfl rfl ?_
  refine pE_getR dX11_climb_1 flX11_29 rfl (by first | assumption | rfl) (by first | assumption | rfl) ?_
  refine pE_aload_n dX11_climb_4 rfl rfl ?_
  refine pE_getR dX11_climb_5 flX11_39 rfl (by first | assumption | rfl) (by first | assumption | rfl) ?_
  refine pE_iload_n dX11_climb_8 rfl rfl ?_
  refine pE_iload_n dX11_climb_9 rfl rfl ?_
  refine pE_iload_n dX11_climb_10 rfl rfl ?_
  refine pE_iload dX11_climb_11 rfl ?_
  refine pE_callV (d' := 2) (as := [_, _, _, _, _]) dX11_climb_13 lkX11_152 (cwX2_canClimb _ _) ivX2_canClimb ⟨_, rfl, rfl⟩ (by first | assumption | rfl) rfl rfl (Nat.le_of_ble_eq_true rfl) (by decide) pKK ?_
  refine M_X2_canClimb ht hH hr hS hrT (fun j s nt c hcc => ?_) (fun hno => ?_)
  · obtain ⟨e1, e2, e3, e4, e5, e6, e7, e8⟩ := id hcc
    have hn8 := hr.2.1
    have hn20 := hr.1.2
    have hv9 := hvN_le hr hcc.o
    have hrj := hr.2.2.2.2 j (by omega)
    have hsj := hrT.2.2.2.2 j (by omega)
    have hcl : cntN p T s (hvN H c) nt (T 24) ≤ 999 := clp_le _ _
    subst e1 e3 e5
    refine pE_if_ne_t (tgt := 21) dX11_climb_16 (by decide) nI_1n0 ?_
    refine pE_aload_n dX11_climb_21 rfl rfl ?_
    refine pE_getR dX11_climb_22 flX11_29 rfl (by first | assumption | rfl) (by first | assumption | rfl) ?_
    refine pE_iload_n dX11_climb_25 rfl rfl ?_
    refine pE_callV (d' := 1) (as := [_]) dX11_climb_26 lkX11_156 (cwX2_heavyOf _ _) ivX2_heavyOf ⟨_, rfl, rfl⟩ (by first | assumption | rfl) rfl rfl (Nat.le_of_ble_eq_true rfl) (by decide) pKK ?_
    refine M_X2_heavyOf_o ht hH hn8 hcc.o ?_
    refine pE_istore (lc' := [_, _, _, _, _, some (.int _), _]) dX11_climb_29 (Nat.le_of_ble_eq_true rfl) rfl rfl ?_
    refine pE_aload_n dX11_climb_31 rfl rfl ?_
    refine pE_getR dX11_climb_32 flX11_29 rfl (by first | assumption | rfl) (by first | assumption | rfl) ?_
    refine pE_aload_n dX11_climb_35 rfl rfl ?_
    refine pE_getR dX11_climb_36 flX11_39 rfl (by first | assumption | rfl) (by first | assumption | rfl) ?_
    refine pE_iload_n dX11_climb_39 rfl rfl ?_
    refine pE_iload dX11_climb_40 rfl ?_
    refine pE_iload dX11_climb_42 rfl ?_
    refine pE_aload_n dX11_climb_44 rfl rfl ?_
    refine pE_getR dX11_climb_45 flX11_39 rfl (by first | assumption | rfl) (by first | assumption | rfl) ?_
    refine pE_getI dX11_climb_48 flX11_160 rfl (Or.inl rfl) (by first | assumption | rfl) ?_
    rw [hS.1]
    refine pE_callV (d' := 2) (as := [_, _, _, _, _]) dX11_climb_51 lkX11_163 (cwX2_countOf _ _) ivX2_countOf ⟨_, rfl, rfl⟩ (by first | assumption | rfl) rfl rfl (Nat.le_of_ble_eq_true rfl) (by decide) pKK ?_
    refine M_X2_countOf ht (Or.inl rfl) hS hF hw (fun I1 hb1 => ?_)
    have hS1 := hS.sb (Or.inl rfl) hb1
    have hH1 := hH.sx ht (Or.inl rfl) hb1.sx
    have hT2 : cS 33 (up1 T 27 (seedN T)) (pu I1 33 6 (nI (seedN T))) := hS1.sc (k := 6) (q := 27) (by omega)
    refine pE_istore (lc' := [_, _, _, _, _, _, some (.int _)]) dX11_climb_54 (Nat.le_of_ble_eq_true rfl) rfl rfl ?_
    refine pE_aload_n dX11_climb_56 rfl rfl ?_
    refine pE_getR dX11_climb_57 flX11_29 rfl (by first | assumption | rfl) (by first | assumption | rfl) ?_
    refine pE_aload_n dX11_climb_60 rfl rfl ?_
    refine pE_getR dX11_climb_61 flX11_39 rfl (by first | assumption | rfl) (by first | assumption | rfl) ?_
    refine pE_iload_n dX11_climb_64 rfl rfl ?_
    refine pE_callV (d' := 0) (as := [_, _]) dX11_climb_65 lkX11_171 (cwX2_failsNext _ _) ivX2_failsNext ⟨_, rfl, rfl⟩ (by first | assumption | rfl) rfl rfl (Nat.le_of_ble_eq_true rfl) (by decide) pKK ?_
    refine M_X2_failsNext ht (Or.inl rfl) (by omega) hS1.2.2.2.1 hrT.2.2.1 (hH1.2.2.2.2.2 j (by omega)).2.2.2.2 hrj.2.2.2.2 (fun hf => ?_) (fun hf => ?_)
    · have hcc0 : clmC p H T j s nt c = 0 := if_pos hf
      refine pE_if_eq_f (tgt := 74) dX11_climb_68 (by decide) nI_1n0 ?_
      refine pE_iconst (v := nI 0) dX11_climb_71 rfl ?_
      refine pE_istore (lc' := [_, _, _, _, _, _, some (.int _)]) dX11_climb_72 (Nat.le_of_ble_eq_true rfl) rfl rfl ?_
      first | rw [show (nI 0 : Int32) = nI (clmC p H T j s nt c) by rw [hcc0]] | rw [show nI (cntN p T s (hvN H c) nt (T 24)) = nI (clmC p H T j s nt c) by rw [hcc0]]
      refine pE_aload_n dX11_climb_74 rfl rfl ?_
      refine pE_getR dX11_climb_75 flX11_29 rfl (by first | assumption | rfl) (by first | assumption | rfl) ?_
      refine pE_aload_n dX11_climb_78 rfl rfl ?_
      refine pE_getR dX11_climb_79 flX11_39 rfl (by first | assumption | rfl) (by first | assumption | rfl) ?_
      refine pE_iload_n dX11_climb_82 rfl rfl ?_
      refine pE_iload_n dX11_climb_83 rfl rfl ?_
      refine pE_iload dX11_climb_84 rfl ?_
      refine pE_iload dX11_climb_86 rfl ?_
      refine pE_callV (d' := 1) (as := [_, _, _, _, _]) dX11_climb_88 lkX11_175 (cwX2_walk _ _) ivX2_walk ⟨_, rfl, rfl⟩ (by first | assumption | rfl) rfl rfl (Nat.le_of_ble_eq_true rfl) (by decide) pKK ?_
      refine M_X2_walk (T := up1 T 27 (seedN T)) (cnt := clmC p H T j s nt c) ht (Or.inl rfl) (by omega) hT2 (by simp only [up1]; rw [if_neg (by omega)]; exact hsj.2.1) (by rw [hcc0]; omega) (by omega) (by omega) (by simp only [up1]; rw [if_neg (by omega)]; exact e8) (fun I2 hx2 hS2 => ?_)
      have hx9 : sx 33 I I2 := (hb1.sx.pu (k := 6) (x := nI (seedN T)) (by omega)).tr hx2
      refine pE_aload_n dX11_climb_91 rfl rfl ?_
      refine pE_getR dX11_climb_92 flX11_49 rfl (by first | assumption | rfl) (by first | assumption | rfl) ?_
      refine pE_aload_n dX11_climb_95 rfl rfl ?_
      refine pE_getR dX11_climb_96 flX11_39 rfl (by first | assumption | rfl) (by first | assumption | rfl) ?_
      refine pE_callV (d' := 2) (as := [_]) dX11_climb_99 lkX11_179 (cwX3_keepAct _ _) ivX3_keepAct ⟨_, rfl, rfl⟩ (by first | assumption | rfl) rfl rfl (Nat.le_of_ble_eq_true rfl) (by decide) pKK ?_
      refine M_X3_keepAct hS2 (hK.sx hx9) (fun I3 od1 hx3 hK3 => ?_)
      refine pE_iload dX11_climb_102 rfl ?_
      refine pE_iret dX11_climb_104 rfl rfl ?_
      exact h1 j s nt c hcc I3 od1 (hx9.sK.tr hx3.sK) (hS2.sk hx3) hK3
    · have hcc0 : clmC p H T j s nt c = cntN p T s (hvN H c) nt (T 24) := if_neg hf
      refine pE_if_eq_t (tgt := 74) dX11_climb_68 (by decide) nI_0 ?_
      first | rw [show (nI 0 : Int32) = nI (clmC p H T j s nt c) by rw [hcc0]] | rw [show nI (cntN p T s (hvN H c) nt (T 24)) = nI (clmC p H T j s nt c) by rw [hcc0]]
      refine pE_aload_n dX11_climb_74 rfl rfl ?_
      refine pE_getR dX11_climb_75 flX11_29 rfl (by first | assumption | rfl) (by first | assumption | rfl) ?_
      refine pE_aload_n dX11_climb_78 rfl rfl ?_
      refine pE_getR dX11_climb_79 flX11_39 rfl (by first | assumption | rfl) (by first | assumption | rfl) ?_
      refine pE_iload_n dX11_climb_82 rfl rfl ?_
      refine pE_iload_n dX11_climb_83 rfl rfl ?_
      refine pE_iload dX11_climb_84 rfl ?_
      refine pE_iload dX11_climb_86 rfl ?_
      refine pE_callV (d' := 1) (as := [_, _, _, _, _]) dX11_climb_88 lkX11_175 (cwX2_walk _ _) ivX2_walk ⟨_, rfl, rfl⟩ (by first | assumption | rfl) rfl rfl (Nat.le_of_ble_eq_true rfl) (by decide) pKK ?_
      refine M_X2_walk (T := up1 T 27 (seedN T)) (cnt := clmC p H T j s nt c) ht (Or.inl rfl) (by omega) hT2 (by simp only [up1]; rw [if_neg (by omega)]; exact hsj.2.1) (by rw [hcc0]; omega) (by omega) (by omega) (by simp only [up1]; rw [if_neg (by omega)]; exact e8) (fun I2 hx2 hS2 => ?_)
      have hx9 : sx 33 I I2 := (hb1.sx.pu (k := 6) (x := nI (seedN T)) (by omega)).tr hx2
      refine pE_aload_n dX11_climb_91 rfl rfl ?_
      refine pE_getR dX11_climb_92 flX11_49 rfl (by first | assumption | rfl) (by first | assumption | rfl) ?_
      refine pE_aload_n dX11_climb_95 rfl rfl ?_
      refine pE_getR dX11_climb_96 flX11_39 rfl (by first | assumption | rfl) (by first | assumption | rfl) ?_
      refine pE_callV (d' := 2) (as := [_]) dX11_climb_99 lkX11_179 (cwX3_keepAct _ _) ivX3_keepAct ⟨_, rfl, rfl⟩ (by first | assumption | rfl) rfl rfl (Nat.le_of_ble_eq_true rfl) (by decide) pKK ?_
      refine M_X3_keepAct hS2 (hK.sx hx9) (fun I3 od1 hx3 hK3 => ?_)
      refine pE_iload dX11_climb_102 rfl ?_
      refine pE_iret dX11_climb_104 rfl rfl ?_
      exact h1 j s nt c hcc I3 od1 (hx9.sK.tr hx3.sK) (hS2.sk hx3) hK3
  · refine pE_if_ne_f (tgt := 21) dX11_climb_16 (by decide) nI_0 ?_
    refine pE_iconst (v := -1) dX11_climb_19 rfl ?_
    refine pE_iret dX11_climb_20 rfl rfl ?_
    exact h0 hno
set_option maxHeartbeats 4000000 in
set_option maxRecDepth 100000 in
theorem M_X11_areTwo {l : Launch} {X : pX} {t g : Nat} {I : pHI} {J : pHJ} {Q : pQ} {x y : Int32} {H : pN} (ht : isH t) (hn : I t 2 = nI (H 1)) (h8 : H 1 ≤ 8) (h1 : ∀ a b, a < H 1 → x = nI a → b < H 1 → y = nI b → a ≠ b → Q (some (.int (nI 1))) I J (pR t g)) (h0 : (∀ a b, a < H 1 → x = nI a → b < H 1 → y = nI b → a = b) → Q (some (.int (nI 0))) I J (pR t g)) : pM l X yX11_areTwo mX11_areTwo 1 [.ref 0, .int x, .int y] pK pK I J (pR t g) Q := by
  obtain ⟨fHFht0, fHFht1, fHFht2, fHFht3, fHFht4, fHFht5, fHFht6, fHFht7, fHFht8, fHFht9, fHFht10, fHFht11, fHFht12, fHFht13, fHFht14, fHFht15, fHFht16, fHFht17, fHFht18, fHFht19, fHFht20, fHFht21, fHFht22, fHFht23, fHFht24, fHFht25, fHFht26⟩ := HF t g ht
  refine pM_of rfl (fun h => by cases h) rfl pKM (Nat.le_of_ble_eq_true rfl) ?_
  refine pE_aload_n dX11_areTwo_0 rfl rfl ?_
  refine pE_getR dX11_areTwo_1 flX11_29 rfl (by first | assumption | rfl) (by first | assumption | rfl) ?_
  refine pE_iload_n dX11_areTwo_4 rfl rfl ?_
  refine pE_callV (d' := 0) (as := [_]) dX11_areTwo_5 lkX11_119 (cwX2_hasTenant _ _) ivX2_hasTenant ⟨_, rfl, rfl⟩ (by first | assumption | rfl) rfl rfl (Nat.le_of_ble_eq_true rfl) (by decide) pKK ?_
  refine M_X2_hasTenant (H := H) ht hn h8 (fun a ha e1 => ?_) (fun hno => ?_)
  · refine pE_if_eq_f (tgt := 31) dX11_areTwo_8 (by decide) nI_1n0 ?_
    refine pE_aload_n dX11_areTwo_11 rfl rfl ?_
    refine pE_getR dX11_areTwo_12 flX11_29 rfl (by first | assumption | rfl) (by first | assumption | rfl) ?_
    refine pE_iload_n dX11_areTwo_15 rfl rfl ?_
    refine pE_callV (d' := 0) (as := [_]) dX11_areTwo_16 lkX11_119 (cwX2_hasTenant _ _) ivX2_hasTenant ⟨_, rfl, rfl⟩ (by first | assumption | rfl) rfl rfl (Nat.le_of_ble_eq_true rfl) (by decide) pKK ?_
    refine M_X2_hasTenant (H := H) ht hn h8 (fun b hb e2 => ?_) (fun hno => ?_)
    · refine pE_if_eq_f (tgt := 31) dX11_areTwo_19 (by decide) nI_1n0 ?_
      refine pE_iload_n dX11_areTwo_22 rfl rfl ?_
      refine pE_iload_n dX11_areTwo_23 rfl rfl ?_
      refine pE_icmp_eq (tgt := 31) dX11_areTwo_24 (by decide) (fun h24 => ?_) (fun h24 => ?_)
      · refine pE_iconst (v := nI 0) dX11_areTwo_31 rfl ?_
        refine pE_zret dX11_areTwo_32 rfl (by first | exact Or.inl nI_0 | exact Or.inr nI_1' | assumption) rfl ?_
        first | exact h1 a b ha e1 hb e2 (fun e => h24 (by rw [e1, e2, e])) | exact h0 (fun a b ha e1 hb e2 => absurd e1 (hno a ha)) | exact h0 (fun a b ha e1 hb e2 => absurd e2 (hno b hb)) | exact h0 (fun a b ha e1 hb e2 => nq_eq (by omega) (by omega) (e1.symm.trans (h24.trans e2)))
      · refine pE_iconst (v := nI 1) dX11_areTwo_27 rfl ?_
        refine pE_goto (tgt := 32) dX11_areTwo_28 (by decide) ?_
        refine pE_zret dX11_areTwo_32 rfl (by first | exact Or.inl nI_0 | exact Or.inr nI_1' | assumption) rfl ?_
        first | exact h1 a b ha e1 hb e2 (fun e => h24 (by rw [e1, e2, e])) | exact h0 (fun a b ha e1 hb e2 => absurd e1 (hno a ha)) | exact h0 (fun a b ha e1 hb e2 => absurd e2 (hno b hb)) | exact h0 (fun a b ha e1 hb e2 => nq_eq (by omega) (by omega) (e1.symm.trans (h24.trans e2)))
    · refine pE_if_eq_t (tgt := 31) dX11_areTwo_19 (by decide) nI_0 ?_
      refine pE_iconst (v := nI 0) dX11_areTwo_31 rfl ?_
      refine pE_zret dX11_areTwo_32 rfl (by first | exact Or.inl nI_0 | exact Or.inr nI_1' | assumption) rfl ?_
      first | exact h1 a b ha e1 hb e2 (fun e => h24 (by rw [e1, e2, e])) | exact h0 (fun a b ha e1 hb e2 => absurd e1 (hno a ha)) | exact h0 (fun a b ha e1 hb e2 => absurd e2 (hno b hb)) | exact h0 (fun a b ha e1 hb e2 => nq_eq (by omega) (by omega) (e1.symm.trans (h24.trans e2)))
  · refine pE_if_eq_t (tgt := 31) dX11_areTwo_8 (by decide) nI_0 ?_
    refine pE_iconst (v := nI 0) dX11_areTwo_31 rfl ?_
    refine pE_zret dX11_areTwo_32 rfl (by first | exact Or.inl nI_0 | exact Or.inr nI_1' | assumption) rfl ?_
    first | exact h1 a b ha e1 hb e2 (fun e => h24 (by rw [e1, e2, e])) | exact h0 (fun a b ha e1 hb e2 => absurd e1 (hno a ha)) | exact h0 (fun a b ha e1 hb e2 => absurd e2 (hno b hb)) | exact h0 (fun a b ha e1 hb e2 => nq_eq (by omega) (by omega) (e1.symm.trans (h24.trans e2)))
set_option maxHeartbeats 4000000 in
set_option maxRecDepth 100000 in
theorem M_X11_give {l : Launch} {X : pX} {t g : Nat} {I : pHI} {J : pHJ} {Q : pQ} {x y z : Int32} {H T : pN} {od d u : Nat} {G : Nat → pN} (ht : isH t) (hH : cH t H I) (hr : rH H) (hS : cS 33 T I) (hrT : rS 999 H T) (hK : cK I od d u G) (h1 : ∀ a b m, GVw H T x y z a b m → ∀ I1 od1, sK I I1 → cS 33 (givN T a b m) I1 → cK I1 od1 (min (d + 1) 40) 0 (actG d G (givN T a b m)) → Q (some (.int (nI (T (8 + b) + m)))) I1 J (pR t g)) (h0 : (∀ a b m, ¬ GVw H T x y z a b m) → Q (some (.int (-1))) I J (pR t g)) : pM l X yX11_give mX11_give 3 [.ref 0, .int x, .int y, .int z] pK pK I J (pR t g) Q := by
  obtain ⟨fHFht0, fHFht1, fHFht2, fHFht3, fHFht4, fHFht5, fHFht6, fHFht7, fHFht8, fHFht9, fHFht10, fHFht11, fHFht12, fHFht13, fHFht14, fHFht15, fHFht16, fHFht17, fHFht18, fHFht19, fHFht20, fHFht21, fHFht22, fHFht23, fHFht24, fHFht25, fHFht26⟩ := HF t g ht
  refine pM_of rfl (fun h => by cases h) rfl pKM (Nat.le_of_ble_eq_true rfl) ?_
  have hn8 := hr.2.1
  refine pE_aload_n dX11_give_0 rfl rfl ?_
  refine pE_iload_n dX11_give_1 rfl rfl ?_
  refine pE_iload_n dX11_give_2 rfl rfl ?_
  refine pE_callV (d' := 1) (as := [_, _]) dX11_give_3 lkX11_182 (cwX11_areTwo _ _) ivX11_areTwo ⟨_, rfl, rfl⟩ (by first | assumption | rfl) rfl rfl (Nat.le_of_ble_eq_true rfl) (by decide) pKK ?_
  refine M_X11_areTwo (H := H) ht hH.2.2.1 hn8 (fun a b ha e1 hb e2 hne => ?_) (fun hno => ?_)
  · subst e1 e2
    have hsa := hrT.2.2.2.2 a (by omega)
    have hsb := hrT.2.2.2.2 b (by omega)
    obtain ⟨-, pa, -⟩ := hS.2.2.2.2 a (by omega)
    obtain ⟨-, pb, -⟩ := hS.2.2.2.2 b (by omega)
    refine pE_if_eq_f (tgt := 44) dX11_give_6 (by decide) nI_1n0 ?_
    rcases nI_or z with hz | ⟨m, hm, rfl⟩
    · refine pE_iload_n dX11_give_9 rfl rfl ?_
      refine pE_iconst (v := nI 1) dX11_give_10 rfl ?_
      refine pE_icmp_lt (tgt := 44) dX11_give_11 (by decide) (fun h11 => ?_) (fun h11 => ?_)
      · refine pE_iconst (v := -1) dX11_give_44 rfl ?_
        refine pE_iret dX11_give_45 rfl rfl ?_
        exact h0 (fun a2 b2 m2 hg => by
          obtain ⟨_, q1, _, _, _, q2, q3, q4, q5⟩ := hg
          have := (hrT.2.2.2.2 a2 (by omega)).2.1
          rw [q2] at hz
          exact absurd hz (nI_pos (by omega)))
      · exact absurd (by rw [Int32.lt_iff_toInt_lt] at hz ⊢; rw [Int32.toInt_zero] at hz; rw [nI_toInt (by omega)]; omega) h11
    · refine pE_iload_n dX11_give_9 rfl rfl ?_
      refine pE_iconst (v := nI 1) dX11_give_10 rfl ?_
      refine pE_icmp_lt (tgt := 44) dX11_give_11 (by decide) (fun h11 => ?_) (fun h11 => ?_)
      · have g11 := nq_lt (by omega) (by omega) h11
        refine pE_iconst (v := -1) dX11_give_44 rfl ?_
        refine pE_iret dX11_give_45 rfl rfl ?_
        exact h0 (fun a2 b2 m2 hg => by
          obtain ⟨d1, d1q, d2, d2q, -, d3, d4, d5, d6⟩ := hg
          have f1 := nq_eq (by omega) (by omega) d1
          have f2 := nq_eq (by omega) (by omega) d2
          subst f1 f2
          have f3 := nq_eq hm (by omega) d3
          omega)
      · have g11 := nq_nlt (by omega) (by omega) h11
        refine pE_iload_n dX11_give_14 rfl rfl ?_
        refine pE_aload_n dX11_give_15 rfl rfl ?_
        refine pE_getR dX11_give_16 flX11_39 rfl (by first | assumption | rfl) (by first | assumption | rfl) ?_
        refine pE_getR dX11_give_19 flX11_142 rfl (by first | assumption | rfl) (by first | assumption | rfl) ?_
        refine pE_iload_n dX11_give_22 rfl rfl ?_
        refine pE_ialoadN dX11_give_23 (by first | assumption | rfl) (by first | assumption | omega) (by omega) ?_
        rw [pa]
        refine pE_icmp_gt (tgt := 44) dX11_give_24 (by decide) (fun h24 => ?_) (fun h24 => ?_)
        · have g24 := nq_lt (by omega) (by omega) h24
          refine pE_iconst (v := -1) dX11_give_44 rfl ?_
          refine pE_iret dX11_give_45 rfl rfl ?_
          exact h0 (fun a2 b2 m2 hg => by
            obtain ⟨d1, d1q, d2, d2q, -, d3, d4, d5, d6⟩ := hg
            have f1 := nq_eq (by omega) (by omega) d1
            have f2 := nq_eq (by omega) (by omega) d2
            subst f1 f2
            have f3 := nq_eq hm (by omega) d3
            omega)
        · have g24 := nq_nlt (by omega) (by omega) h24
          refine pE_aload_n dX11_give_27 rfl rfl ?_
          refine pE_getR dX11_give_28 flX11_39 rfl (by first | assumption | rfl) (by first | assumption | rfl) ?_
          refine pE_getR dX11_give_31 flX11_142 rfl (by first | assumption | rfl) (by first | assumption | rfl) ?_
          refine pE_iload_n dX11_give_34 rfl rfl ?_
          refine pE_ialoadN dX11_give_35 (by first | assumption | rfl) (by first | assumption | omega) (by omega) ?_
          rw [pb]
          refine pE_sipush (v := nI 9999) dX11_give_36 rfl ?_
          refine pE_iload_n dX11_give_39 rfl rfl ?_
          refine pE_isubN dX11_give_40 (by omega) ?_
          refine pE_icmp_le (tgt := 46) dX11_give_41 (by decide) (fun h41 => ?_) (fun h41 => ?_)
          · have g41 := nq_le (by omega) (by omega) h41
            refine pE_aload_n dX11_give_46 rfl rfl ?_
            refine pE_getR dX11_give_47 flX11_39 rfl (by first | assumption | rfl) (by first | assumption | rfl) ?_
            refine pE_getR dX11_give_50 flX11_142 rfl (by first | assumption | rfl) (by first | assumption | rfl) ?_
            refine pE_iload_n dX11_give_53 rfl rfl ?_
            refine pE_dup2 dX11_give_54 ?_
            refine pE_ialoadN dX11_give_55 (by first | assumption | rfl) (by first | assumption | omega) (by omega) ?_
            rw [pa]
            refine pE_iload_n dX11_give_56 rfl rfl ?_
            refine pE_isubN dX11_give_57 (by omega) ?_
            refine pE_iastoreN dX11_give_58 (by first | assumption | rfl) (by first | assumption | omega) (by omega) ?_
            refine pE_aload_n dX11_give_59 rfl rfl ?_
            refine pE_getR dX11_give_60 flX11_39 rfl (by first | assumption | rfl) (by first | assumption | rfl) ?_
            refine pE_getR dX11_give_63 flX11_142 rfl (by first | assumption | rfl) (by first | assumption | rfl) ?_
            refine pE_iload_n dX11_give_66 rfl rfl ?_
            refine pE_dup2 dX11_give_67 ?_
            refine pE_ialoadN dX11_give_68 (by first | assumption | rfl) (by first | assumption | omega) (by omega) ?_
            rw [(by rw [pu_at, if_neg (by omega)]; exact pb : pu I 35 a (nI (T (8 + a) - m)) 35 b = nI (T (8 + b)))]
            refine pE_iload_n dX11_give_69 rfl rfl ?_
            refine pE_iaddN dX11_give_70 ?_
            refine pE_iastoreN dX11_give_71 (by first | assumption | rfl) (by first | assumption | omega) (by omega) ?_
            refine pE_aload_n dX11_give_72 rfl rfl ?_
            refine pE_getR dX11_give_73 flX11_49 rfl (by first | assumption | rfl) (by first | assumption | rfl) ?_
            refine pE_aload_n dX11_give_76 rfl rfl ?_
            refine pE_getR dX11_give_77 flX11_39 rfl (by first | assumption | rfl) (by first | assumption | rfl) ?_
            refine pE_callV (d' := 2) (as := [_]) dX11_give_80 lkX11_179 (cwX3_keepAct _ _) ivX3_keepAct ⟨_, rfl, rfl⟩ (by first | assumption | rfl) rfl rfl (Nat.le_of_ble_eq_true rfl) (by decide) pKK ?_
            refine M_X3_keepAct (T := givN T a b m) ((hS.pd (by omega)).pd (by omega)) (hK.sx ((sx.rf.pu (by omega)).pu (by omega))) (fun I1 od1 hx hK1 => ?_)
            refine pE_aload_n dX11_give_83 rfl rfl ?_
            refine pE_getR dX11_give_84 flX11_39 rfl (by first | assumption | rfl) (by first | assumption | rfl) ?_
            refine pE_getR dX11_give_87 flX11_142 rfl (by first | assumption | rfl) (by first | assumption | rfl) ?_
            refine pE_iload_n dX11_give_90 rfl rfl ?_
            refine pE_ialoadN dX11_give_91 (by first | assumption | rfl) (by first | assumption | omega) (by omega) ?_
            rw [((((hS.pd (j := a) (v := T (8 + a) - m) (by omega)).pd (j := b) (v := T (8 + b) + m) (by omega)).sk hx).2.2.2.2 b (by omega)).2.1]
            refine pE_iret dX11_give_92 rfl rfl ?_
            refine cgQ ?_ (h1 a b m ⟨rfl, ha, rfl, hb, hne, rfl, by omega, by omega, by omega⟩ I1 od1 ((((sx.rf.pu (by omega)).pu (by omega)) : sx 33 I _).sK.tr hx.sK) (((hS.pd (by omega)).pd (by omega)).sk hx) hK1)
            simp only [up1]; simp
          · have g41 := nq_nle (by omega) (by omega) h41
            refine pE_iconst (v := -1) dX11_give_44 rfl ?_
            refine pE_iret dX11_give_45 rfl rfl ?_
            exact h0 (fun a2 b2 m2 hg => by
              obtain ⟨d1, d1q, d2, d2q, -, d3, d4, d5, d6⟩ := hg
              have f1 := nq_eq (by omega) (by omega) d1
              have f2 := nq_eq (by omega) (by omega) d2
              subst f1 f2
              have f3 := nq_eq hm (by omega) d3
              omega)
  · refine pE_if_eq_t (tgt := 44) dX11_give_6 (by decide) nI_0 ?_
    refine pE_iconst (v := -1) dX11_give_44 rfl ?_
    refine pE_iret dX11_give_45 rfl rfl ?_
    exact h0 (fun a b m hg => absurd (hno a b hg.2.1 hg.1 hg.2.2.2.1 hg.2.2.1) hg.2.2.2.2.1)
set_option maxHeartbeats 4000000 in
set_option maxRecDepth 100000 in
theorem M_X11_week {l : Launch} {X : pX} {t g : Nat} {I : pHI} {J : pHJ} {Q : pQ} {H T : pN} {p : pP} {od d u : Nat} {G : Nat → pN} (ht : isH t) (hH : cH t H I) (hr : rH H) (hS : cS 33 T I) (hrT : rS 999 H T) (hF : cF (t + 10) p I) (hw : wfp p 0) (hK : cK I od d u G) (h1 : T 26 < 999 → ∀ I1 od1, sK I I1 → cS 33 (weekN p H T) I1 → cK I1 od1 (min (d + 1) 40) 0 (actG d G (weekN p H T)) → Q (some (.int (nI (weekN p H T 25)))) I1 J (pR t g)) (h0 : ¬ T 26 < 999 → Q (some (.int (-1))) I J (pR t g)) : pM l X yX11_week mX11_week 5 [.ref 0] pK pK I J (pR t g) Q := by
  obtain ⟨fHFht0, fHFht1, fHFht2, fHFht3, fHFht4, fHFht5, fHFht6, fHFht7, fHFht8, fHFht9, fHFht10, fHFht11, fHFht12, fHFht13, fHFht14, fHFht15, fHFht16, fHFht17, fHFht18, fHFht19, fHFht20, fHFht21, fHFht22, fHFht23, fHFht24, fHFht25, fHFht26⟩ := HF t g ht
  have hb26 := hrT.2.1
  refine pM_of rfl (fun h => by cases h) rfl pKM (Nat.le_of_ble_eq_true rfl) ?_
  refine pE_aload_n dX11_week_0 rfl rfl ?_
  refine pE_getR dX11_week_1 flX11_39 rfl (by first | assumption | rfl) (by first | assumption | rfl) ?_
  refine pE_getI dX11_week_4 flX11_186 rfl (Or.inl rfl) (by first | assumption | rfl) ?_
  rw [hS.2.2.1]
  refine pE_sipush (v := nI 999) dX11_week_7 rfl ?_
  refine pE_icmp_lt (tgt := 15) dX11_week_10 (by decide) (fun h10 => ?_) (fun h10 => ?_)
  · have g10 := nq_lt (by omega) (by omega) h10
    refine pE_aload_n dX11_week_15 rfl rfl ?_
    refine pE_getR dX11_week_16 flX11_29 rfl (by first | assumption | rfl) (by first | assumption | rfl) ?_
    refine pE_aload_n dX11_week_19 rfl rfl ?_
    refine pE_getR dX11_week_20 flX11_39 rfl (by first | assumption | rfl) (by first | assumption | rfl) ?_
    refine pE_callV (d' := 4) (as := [_]) dX11_week_23 lkX11_189 (cwX2_passWeek _ _) ivX2_passWeek ⟨_, rfl, rfl⟩ (by first | assumption | rfl) rfl rfl (Nat.le_of_ble_eq_true rfl) (by decide) pKK ?_
    refine M_X2_passWeek ht (Or.inl rfl) hr hS hH hF hw hrT (fun I1 hx hS1 => ?_)
    refine pE_aload_n dX11_week_26 rfl rfl ?_
    refine pE_getR dX11_week_27 flX11_49 rfl (by first | assumption | rfl) (by first | assumption | rfl) ?_
    refine pE_aload_n dX11_week_30 rfl rfl ?_
    refine pE_getR dX11_week_31 flX11_39 rfl (by first | assumption | rfl) (by first | assumption | rfl) ?_
    refine pE_callV (d' := 2) (as := [_]) dX11_week_34 lkX11_179 (cwX3_keepAct _ _) ivX3_keepAct ⟨_, rfl, rfl⟩ (by first | assumption | rfl) rfl rfl (Nat.le_of_ble_eq_true rfl) (by decide) pKK ?_
    refine M_X3_keepAct hS1 (hK.sx hx) (fun I2 od1 hx2 hK2 => ?_)
    refine pE_aload_n dX11_week_37 rfl rfl ?_
    refine pE_getR dX11_week_38 flX11_39 rfl (by first | assumption | rfl) (by first | assumption | rfl) ?_
    refine pE_getI dX11_week_41 flX11_192 rfl (Or.inl rfl) (by first | assumption | rfl) ?_
    rw [(hS1.sk hx2).2.1]
    refine pE_iret dX11_week_44 rfl rfl ?_
    exact h1 g10 I2 od1 (hx.sK.tr hx2.sK) (hS1.sk hx2) hK2
  · have g10 := nq_nlt (by omega) (by omega) h10
    refine pE_iconst (v := -1) dX11_week_13 rfl ?_
    refine pE_iret dX11_week_14 rfl rfl ?_
    exact h0 (by omega)
