set_option maxHeartbeats 400000 in
set_option maxRecDepth 100000 in
theorem LI_X12_ladder {l : Launch} {X : pX} {t g : Nat} {I : pHI} {J : pHJ} {Q : pQ} {m : Nat} {a : Nat} {H T : pN} {p0 p : pP} (hH : mH H I) (hr : rH H) (hrT : rS 999 H T) (hF : mF 0 p0 I) (hw : p0 = [] ∨ wfp p0 0) (hp0 : fR 0 p0 p) (ha : a < H 1) (hm : m ≤ T a) (hS0 : mS 90 T I) (hq : ∀ I2 y4 v5, sz I I2 → mS 91 (up1 T 24 (T 24 + m)) I2 → (∀ q, m ≤ q → q ≤ T a → ∃ y, I2 100 q = nI y ∧ isM (upF (H 0) (T a) q) (vlL (gC p T) q) (some y) ∧ y ≤ 39960) → pE l X mX12_ladder 4 pK 115 [some (.ref 67), some (.int (nI a)), some (.int (nI (T a))), some (.int (nI m)), some (.int y4), v5] [] pK I2 J (pR t g) Q) : ∀ (fu : Nat) (j : Nat) (x : Nat) (I1 : pHI) (v5 : Option Value), H 0 - j < fu → (j ≤ H 0) → (sz I I1) → (mS 91 (up1 T 24 (T 24 + m)) I1) → (I1 100 m = nI x) → (isM (niL (H 0) (T a) m (j + 1)) (vlL (gC p T) m) (some x)) → (∀ q, m + 1 ≤ q → q ≤ T a → ∃ y, I1 100 q = nI y ∧ isM (upF (H 0) (T a) q) (vlL (gC p T) q) (some y) ∧ y ≤ 39960) → pE l X mX12_ladder 4 pK 53 [some (.ref 67), some (.int (nI a)), some (.int (nI (T a))), some (.int (nI m)), some (.int (nI (j + 1))), v5] [] pK I1 J (pR t g) Q := by
  intro fu
  induction fu with
  | zero => intro j x I1 v5 hn; exact absurd hn (Nat.not_lt_zero _)
  | succ fu ih =>
    intro j x I1 v5 hn hj hx hT1 hb hmx hc
    have hn8 := hr.2.1
    have hn20 := hr.1.2
    have hT40 := (hrT.2.2.2.2 a (by omega)).1
    have hH1 := hH.sz hx
    have hxb := isM_le (n := max (H 0) (j + 1)) (q := 40) hmx (fun L hL => by
      rcases hL with rfl | ⟨s, L0, h1, h2, h3, h4, h5, h6⟩
      · exact ⟨okL_nil _, by simp [smL]⟩
      · subst h1
        exact ⟨okL_cons.mpr ⟨by omega, ok_up (by omega) h5⟩, by simp only [smL]; omega⟩) (by omega) x rfl
    refine pE_iload dX12_ladder_53 rfl ?_
    refine pE_aload_n dX12_ladder_55 rfl rfl ?_
    refine pE_getI dX12_ladder_56 flX12_82 rfl (Or.inl rfl) (by first | assumption | rfl) ?_
    rw [hH1.1]
    refine pE_icmp_gt (tgt := 115) dX12_ladder_59 (by decide) (fun h59 => ?_) (fun h59 => ?_)
    · have g59 := nq_lt (by omega) (by omega) h59
      refine hq _ _ _ hx hT1 (fun q h1 h2 => ?_)
      by_cases e : q = m
      · subst e
        exact ⟨x, hb, isM_cg hmx (fun L => ni_all h2 (by omega) L), hxb⟩
      · exact hc q (by omega) h2
    · have g59 := nq_nlt (by omega) (by omega) h59
      refine pE_iload_n dX12_ladder_62 rfl rfl ?_
      refine pE_iload dX12_ladder_63 rfl ?_
      refine pE_iaddN dX12_ladder_65 ?_
      refine pE_iload_n dX12_ladder_66 rfl rfl ?_
      refine pE_icmp_gt (tgt := 115) dX12_ladder_67 (by decide) (fun h67 => ?_) (fun h67 => ?_)
      · have g67 := nq_lt (by omega) (by omega) h67
        refine hq _ _ _ hx hT1 (fun q h1 h2 => ?_)
        by_cases e : q = m
        · subst e
          exact ⟨x, hb, isM_cg hmx (fun L => ni_all h2 (by omega) L), hxb⟩
        · exact hc q (by omega) h2
      · have g67 := nq_nlt (by omega) (by omega) h67
        obtain ⟨y, y1, y2, y3⟩ := hc (m + (j + 1)) (by omega) (by omega)
        have hg9 := gC_le p T (j + 1) m
        refine pE_aload_n dX12_ladder_70 rfl rfl ?_
        refine pE_iload dX12_ladder_71 rfl ?_
        refine pE_iconst (v := -1) dX12_ladder_73 rfl ?_
        refine pE_iconst (v := nI 0) dX12_ladder_74 rfl ?_
        refine pE_callV (d' := 3) (as := [_, _, _]) dX12_ladder_75 lkX12_404 (cwX12_countOf _ _) ivX12_countOf ⟨_, rfl, rfl⟩ (by first | assumption | rfl) rfl rfl (Nat.le_of_ble_eq_true rfl) (by decide) pKK ?_
        refine M_X12_countOf_0 (hF.sz hx) hw hT1 (fun I2 hb2 => ?_)
        rw [fr_cnt hp0, cnt_cg (T1 := up1 T 24 (T 24 + m)) (T := T) (b := m) rfl rfl rfl]
        refine pE_aload_n dX12_ladder_78 rfl rfl ?_
        refine pE_getR dX12_ladder_79 flX12_115 rfl (by first | assumption | rfl) (by first | assumption | rfl) ?_
        refine pE_iload_n dX12_ladder_82 rfl rfl ?_
        refine pE_iload dX12_ladder_83 rfl ?_
        refine pE_iaddN dX12_ladder_85 ?_
        refine pE_ialoadN dX12_ladder_86 rfl (by omega) (by omega) ?_
        rw [show I2 100 (m + (j + 1)) = nI y from (hb2 100 _ (by simp [scF])).trans y1]
        refine pE_iaddN dX12_ladder_87 ?_
        refine pE_istore (lc' := [_, _, _, _, _, some (.int _)]) dX12_ladder_88 (Nat.le_of_ble_eq_true rfl) rfl rfl ?_
        refine pE_iload dX12_ladder_90 rfl ?_
        refine pE_aload_n dX12_ladder_92 rfl rfl ?_
        refine pE_getR dX12_ladder_93 flX12_115 rfl (by first | assumption | rfl) (by first | assumption | rfl) ?_
        refine pE_iload_n dX12_ladder_96 rfl rfl ?_
        refine pE_ialoadN dX12_ladder_97 (by first | assumption | rfl) (by first | assumption | omega) (by omega) ?_
        rw [(show I2 100 m = nI x from (hb2 100 _ (by simp [scF])).trans hb)]
        refine pE_icmp_le (tgt := 109) dX12_ladder_98 (by decide) (fun h98 => ?_) (fun h98 => ?_)
        · have g98 := nq_le (by omega) (by omega) h98
          refine pE_iincN (c0 := 1) (lc' := [_, _, _, _, some (.int _), _]) dX12_ladder_109 rfl rfl rfl rfl ?_
          refine pE_goto (tgt := 53) dX12_ladder_112 (by decide) ?_
          first
          | (have gg : gC p T (j + 1) m + y ≤ x := g98
             refine ih (j + 1) x I2 _ (by omega) (by omega) (hx.tr hb2.sm.sz) (hT1.sb (Or.inr rfl) hb2) ((hb2 100 _ (by simp [scF])).trans hb) ?_ (fun q h1 h2 => ?_)
             · have h9 := ni_put (by omega) (by omega) hmx y2
               rw [Nat.max_eq_left gg] at h9
               exact h9
             · obtain ⟨z, z1, z2⟩ := hc q h1 h2
               exact ⟨z, (hb2 100 _ (by simp [scF])).trans z1, z2⟩)
          | (have gg : x < gC p T (j + 1) m + y := g98
             refine ih (j + 1) _ _ _ (by omega) (by omega) ((hx.tr hb2.sm.sz).pu (by simp [scM])) (mSne (hT1.sb (Or.inr rfl) hb2) (by decide)) (by rw [pu_at, if_pos ⟨rfl, rfl⟩]) ?_ (fun q h1 h2 => ?_)
             · have h9 := ni_put (by omega) (by omega) hmx y2
               rw [Nat.max_eq_right (Nat.le_of_lt gg)] at h9
               exact h9
             · obtain ⟨z, z1, z2⟩ := hc q h1 h2
               exact ⟨z, by rw [pu_at, if_neg (by omega)]; exact (hb2 100 _ (by simp [scF])).trans z1, z2⟩)
        · have g98 := nq_nle (by omega) (by omega) h98
          refine pE_aload_n dX12_ladder_101 rfl rfl ?_
          refine pE_getR dX12_ladder_102 flX12_115 rfl (by first | assumption | rfl) (by first | assumption | rfl) ?_
          refine pE_iload_n dX12_ladder_105 rfl rfl ?_
          refine pE_iload dX12_ladder_106 rfl ?_
          refine pE_iastoreN dX12_ladder_108 (by first | assumption | rfl) (by first | assumption | omega) (by omega) ?_
          refine pE_iincN (c0 := 1) (lc' := [_, _, _, _, some (.int _), _]) dX12_ladder_109 rfl rfl rfl rfl ?_
          refine pE_goto (tgt := 53) dX12_ladder_112 (by decide) ?_
          first
          | (have gg : gC p T (j + 1) m + y ≤ x := g98
             refine ih (j + 1) x I2 _ (by omega) (by omega) (hx.tr hb2.sm.sz) (hT1.sb (Or.inr rfl) hb2) ((hb2 100 _ (by simp [scF])).trans hb) ?_ (fun q h1 h2 => ?_)
             · have h9 := ni_put (by omega) (by omega) hmx y2
               rw [Nat.max_eq_left gg] at h9
               exact h9
             · obtain ⟨z, z1, z2⟩ := hc q h1 h2
               exact ⟨z, (hb2 100 _ (by simp [scF])).trans z1, z2⟩)
          | (have gg : x < gC p T (j + 1) m + y := g98
             refine ih (j + 1) _ _ _ (by omega) (by omega) ((hx.tr hb2.sm.sz).pu (by simp [scM])) (mSne (hT1.sb (Or.inr rfl) hb2) (by decide)) (by rw [pu_at, if_pos ⟨rfl, rfl⟩]) ?_ (fun q h1 h2 => ?_)
             · have h9 := ni_put (by omega) (by omega) hmx y2
               rw [Nat.max_eq_right (Nat.le_of_lt gg)] at h9
               exact h9
             · obtain ⟨z, z1, z2⟩ := hc q h1 h2
               exact ⟨z, by rw [pu_at, if_neg (by omega)]; exact (hb2 100 _ (by simp [scF])).trans z1, z2⟩)
set_option maxHeartbeats 400000 in
set_option maxRecDepth 100000 in
theorem LO_X12_ladder {l : Launch} {X : pX} {t g : Nat} {I : pHI} {J : pHJ} {Q : pQ} {a : Nat} {H T : pN} {p0 p : pP} (hH : mH H I) (hr : rH H) (hrT : rS 999 H T) (hF : mF 0 p0 I) (hw : p0 = [] ∨ wfp p0 0) (hp0 : fR 0 p0 p) (ha : a < H 1) (hS0 : mS 90 T I) (hq : ∀ I2 y, sz I I2 → isM (upF (H 0) (T a) 0) (vlL (gC p T) 0) (some y) → Q (some (.int (nI y))) I2 J (pR t g)) : ∀ (m : Nat) (I1 : pHI) (v4 v5 : Option Value), m ≤ T a + 1 → sz I I1 → (∃ T1, mS 91 T1 I1 ∧ ∀ k, k ≠ 24 → T1 k = T k) → (∀ q, m ≤ q → q ≤ T a → ∃ y, I1 100 q = nI y ∧ isM (upF (H 0) (T a) q) (vlL (gC p T) q) (some y) ∧ y ≤ 39960) → pE l X mX12_ladder 4 pK 23 [some (.ref 67), some (.int (nI a)), some (.int (nI (T a))), some (.int (nI m + -1)), v4, v5] [] pK I1 J (pR t g) Q := by
  have hn8 := hr.2.1
  have hn20 := hr.1.2
  have hT40 := (hrT.2.2.2.2 a (by omega)).1
  intro m
  induction m with
  | zero =>
    intro I1 v4 v5 hm hx hT1 hc
    refine pE_iload_n dX12_ladder_23 rfl rfl ?_
    refine pE_if_lt (tgt := 121) dX12_ladder_24 (by decide) (fun h24 => ?_) (fun h24 => ?_)
    · obtain ⟨y, y1, y2, y3⟩ := hc 0 (Nat.le_refl _) (Nat.zero_le _)
      refine pE_aload_n dX12_ladder_121 rfl rfl ?_
      refine pE_getR dX12_ladder_122 flX12_115 rfl (by first | assumption | rfl) (by first | assumption | rfl) ?_
      refine pE_iconst (v := nI 0) dX12_ladder_125 rfl ?_
      refine pE_ialoadN dX12_ladder_126 (by first | assumption | rfl) (by first | assumption | omega) (by omega) ?_
      rw [y1]
      refine pE_iret dX12_ladder_127 rfl rfl ?_
      exact hq _ y hx y2
    · exact absurd (by decide : nI 0 + -1 < 0) h24
  | succ m ih =>
    intro I1 v4 v5 hm hx hT1 hc
    obtain ⟨T1, t1, t2⟩ := hT1
    rw [nI_dec]
    refine pE_iload_n dX12_ladder_23 rfl rfl ?_
    refine pE_if_lt (tgt := 121) dX12_ladder_24 (by decide) (fun h24 => ?_) (fun h24 => ?_)
    · exact absurd h24 (nI_pos (by omega))
    · refine pE_aload_n dX12_ladder_27 rfl rfl ?_
      refine pE_getR dX12_ladder_28 flX12_88 rfl (by first | assumption | rfl) (by first | assumption | rfl) ?_
      refine pE_bipush (v := nI 24) dX12_ladder_31 rfl ?_
      refine pE_aload_n dX12_ladder_33 rfl rfl ?_
      refine pE_getR dX12_ladder_34 flX12_85 rfl (by first | assumption | rfl) (by first | assumption | rfl) ?_
      refine pE_bipush (v := nI 24) dX12_ladder_37 rfl ?_
      refine pE_ialoadN dX12_ladder_39 (by first | assumption | rfl) (by first | assumption | omega) (by omega) ?_
      rw [(show I1 90 24 = nI (T 24) from (hx 90 24 (by simp [scF]) (by simp [scM])).trans (hS0 24 (by omega)))]
      refine pE_iload_n dX12_ladder_40 rfl rfl ?_
      refine pE_iaddN dX12_ladder_41 ?_
      refine pE_iastoreN dX12_ladder_42 (by first | assumption | rfl) (by first | assumption | omega) (by omega) ?_
      refine pE_aload_n dX12_ladder_43 rfl rfl ?_
      refine pE_getR dX12_ladder_44 flX12_115 rfl (by first | assumption | rfl) (by first | assumption | rfl) ?_
      refine pE_iload_n dX12_ladder_47 rfl rfl ?_
      refine pE_iconst (v := nI 0) dX12_ladder_48 rfl ?_
      refine pE_iastoreN dX12_ladder_49 (by first | assumption | rfl) (by first | assumption | omega) (by omega) ?_
      refine pE_iconst (v := nI 1) dX12_ladder_50 rfl ?_
      refine pE_istore (lc' := [_, _, _, _, some (.int _), _]) dX12_ladder_51 (Nat.le_of_ble_eq_true rfl) rfl rfl ?_
      have hxa : sz I (pu (pu I1 91 24 (nI (T 24 + m))) 100 m (nI 0)) := (hx.pu (by simp [scM])).pu (by simp [scM])
      refine LI_X12_ladder (I := pu (pu I1 91 24 (nI (T 24 + m))) 100 m (nI 0)) (hH.sz hxa) hr hrT (hF.sz hxa) hw hp0 ha (by omega) (fun k hk => (hxa 90 k (by simp [scF]) (by simp [scM])).trans (hS0 k hk)) (fun I2 y4 v5' f2 t3 c2 => ?_) (H 0 + 1) 0 0 _ _ (by omega) (by omega) sz.rf ?_ (by rw [pu_at, if_pos ⟨rfl, rfl⟩]) (ni_1 rfl) (fun q h1 h2 => ?_)
      · refine pE_iinc (c0 := -1) (lc' := [_, _, _, some (.int _), _, _]) dX12_ladder_115 rfl rfl rfl rfl ?_
        refine pE_goto (tgt := 23) dX12_ladder_118 (by decide) ?_
        exact ih I2 _ _ (by omega) (hxa.tr f2) ⟨_, t3, fun k hk => if_neg hk⟩ c2
      · refine mSne ?_ (by decide)
        exact (t1.pu (k := 24) (v := T 24 + m)).cg (fun k hk => by simp only [up1]; split; rfl; exact t2 k (by omega))
      · obtain ⟨z, z1, z2⟩ := hc q h1 h2
        exact ⟨z, by rw [pu_at, if_neg (by omega), pu_ne _ _ _ (by decide)]; exact z1, z2⟩
set_option maxHeartbeats 400000 in
set_option maxRecDepth 100000 in
theorem M_X12_ladder {l : Launch} {X : pX} {t g : Nat} {I : pHI} {J : pHJ} {Q : pQ} {x : Int32} {H T : pN} {p0 p : pP} (hH : mH H I) (hr : rH H) (hrT : rS 999 H T) (hF : mF 0 p0 I) (hw : p0 = [] ∨ wfp p0 0) (hp0 : fR 0 p0 p) (hS : mS 90 T I) (h1 : ∀ a, a < H 1 → x = nI a → ∀ I2 y, sz I I2 → isM (upF (H 0) (T a) 0) (vlL (gC p T) 0) (some y) → Q (some (.int (nI y))) I2 J (pR t g)) (h0 : (∀ a, a < H 1 → x ≠ nI a) → Q (some (.int (-1))) I J (pR t g)) : pM l X yX12_ladder mX12_ladder 4 [.ref 67, .int x] pK pK I J (pR t g) Q := by
  have hn8 := hr.2.1
  refine pM_of rfl (fun h => by cases h) rfl pKM (Nat.le_of_ble_eq_true rfl) ?_
  refine pE_aload_n dX12_ladder_0 rfl rfl ?_
  refine pE_iload_n dX12_ladder_1 rfl rfl ?_
  refine pE_callV (d' := 1) (as := [_]) dX12_ladder_2 lkX12_382 (cwX12_isTenant _ _) ivX12_isTenant ⟨_, rfl, rfl⟩ (by first | assumption | rfl) rfl rfl (Nat.le_of_ble_eq_true rfl) (by decide) pKK ?_
  refine M_X12_isTenant (H := H) hH.2.1 hr.2.1 (fun a ha e1 => ?_) (fun hno => ?_)
  · subst e1
    refine pE_if_ne_t (tgt := 10) dX12_ladder_5 (by decide) nI_1n0 ?_
    refine pE_aload_n dX12_ladder_10 rfl rfl ?_
    refine pE_callV (d' := 0) (as := []) dX12_ladder_11 lkX12_394 (cwX12_load _ _) ivX12_load ⟨_, rfl, rfl⟩ (by first | assumption | rfl) rfl rfl (Nat.le_of_ble_eq_true rfl) (by decide) pKK ?_
    refine M_X12_load ?_
    refine pE_aload_n dX12_ladder_14 rfl rfl ?_
    refine pE_getR dX12_ladder_15 flX12_88 rfl (by first | assumption | rfl) (by first | assumption | rfl) ?_
    refine pE_iload_n dX12_ladder_18 rfl rfl ?_
    refine pE_ialoadN dX12_ladder_19 (by first | assumption | rfl) (by first | assumption | omega) (by omega) ?_
    rw [hS.load a (by have := hr.2.1; omega)]
    refine pE_istore_n (lc' := [_, _, some (.int _), _, _, _]) dX12_ladder_20 rfl (Nat.le_of_ble_eq_true rfl) rfl rfl ?_
    refine pE_iload_n dX12_ladder_21 rfl rfl ?_
    refine pE_istore_n (lc' := [_, _, _, some (.int _), _, _]) dX12_ladder_22 rfl (Nat.le_of_ble_eq_true rfl) rfl rfl ?_
    refine pE_cg (LO_X12_ladder (I := pz I 91 (fun q => if q < 28 then I 90 q else I 91 q)) (hH.sm sm.load) hr hrT (hF.sm sm.load) hw hp0 ha (hS.sm90 sm.load) (fun I2 y f m => h1 a ha rfl I2 y (sm.load.sz.tr f) m) (T a + 1) _ _ _ (Nat.le_refl _) sz.rf ⟨T, hS.load, fun _ _ => rfl⟩ (fun q h1 h2 => by omega)) (by rw [nI_dec]) rfl rfl rfl rfl
  · refine pE_if_ne_f (tgt := 10) dX12_ladder_5 (by decide) nI_0 ?_
    refine pE_iconst (v := -1) dX12_ladder_8 rfl ?_
    refine pE_iret dX12_ladder_9 rfl rfl ?_
    exact h0 hno
set_option maxHeartbeats 400000 in
set_option maxRecDepth 100000 in
theorem LA_X12_paidBy {l : Launch} {X : pX} {t g : Nat} {I : pHI} {J : pHJ} {Q : pQ} {a c code : Nat} {H : pN} (hH : mH H I) (hr : rH H) (hcd : code < 2 ^ 31) (hc : c ≤ 4) (hq : ∀ I2 y4, (∀ cc k, cc ≠ 93 → I2 cc k = I cc k) → (∀ i, i < c → I2 93 i = nI ((dgL (H 0) c code).getD i 0)) → pE l X mX12_paidBy 4 pK 59 [some (.ref 67), some (.int (nI a)), some (.int (nI c)), some (.int (nI code)), some (.int y4), some (.int (nI (smL (dgL (H 0) c code)))), some (.int (nI 0 + -1))] [] pK I2 J (pR t g) Q) : ∀ (m rest : Nat) (S : List Nat) (I1 : pHI), m + S.length = c → rest < 2 ^ 31 → (dgL (H 0) c code) = dgL (H 0) m rest ++ S → (∀ cc k, cc ≠ 93 → I1 cc k = I cc k) → (∀ i, i < S.length → I1 93 (m + i) = nI (S.getD i 0)) → pE l X mX12_paidBy 4 pK 11 [some (.ref 67), some (.int (nI a)), some (.int (nI c)), some (.int (nI code)), some (.int (nI rest)), some (.int (nI (smL S))), some (.int (nI m + -1))] [] pK I1 J (pR t g) Q := by
  have hn20 := hr.1.2
  have hn1 := hr.1.1
  intro m
  induction m with
  | zero =>
    intro rest S I1 hl hrs he hf hv
    refine pE_iload dX12_paidBy_11 rfl ?_
    refine pE_if_lt (tgt := 59) dX12_paidBy_13 (by decide) (fun h13 => ?_) (fun h13 => ?_)
    · have e2 : dgL (H 0) c code = S := by rw [he]; rfl
      refine pE_cg (hq I1 (nI rest) hf (fun i hi => ?_)) (by rw [e2]) rfl rfl rfl rfl
      rw [e2]
      have h9 := hv i (by omega)
      rw [Nat.zero_add] at h9
      exact h9
    · exact absurd (by decide : nI 0 + -1 < 0) h13
  | succ m ih =>
    intro rest S I1 hl hrs he hf hv
    rw [nI_dec]
    have hmod := Nat.mod_lt rest hn1
    have hdiv : rest / H 0 ≤ rest := Nat.div_le_self _ _
    refine pE_iload dX12_paidBy_11 rfl ?_
    refine pE_if_lt (tgt := 59) dX12_paidBy_13 (by decide) (fun h13 => ?_) (fun h13 => ?_)
    · exact absurd h13 (nI_pos (by omega))
    · refine pE_aload_n dX12_paidBy_16 rfl rfl ?_
      refine pE_getR dX12_paidBy_17 flX12_94 rfl (by first | assumption | rfl) (by first | assumption | rfl) ?_
      refine pE_iload dX12_paidBy_20 rfl ?_
      refine pE_iconst (v := nI 1) dX12_paidBy_22 rfl ?_
      refine pE_iload dX12_paidBy_23 rfl ?_
      refine pE_aload_n dX12_paidBy_25 rfl rfl ?_
      refine pE_getI dX12_paidBy_26 flX12_82 rfl (Or.inl rfl) (by first | assumption | rfl) ?_
      rw [(hf 67 41 (by decide)).trans hH.1]
      refine pE_iremN dX12_paidBy_29 (by omega) (by omega) (by omega) ?_
      refine pE_iaddN dX12_paidBy_30 ?_
      refine pE_iastoreN dX12_paidBy_31 (by first | assumption | rfl) (by first | assumption | omega) (by omega) ?_
      refine pE_iload dX12_paidBy_32 rfl ?_
      refine pE_aload_n dX12_paidBy_34 rfl rfl ?_
      refine pE_getI dX12_paidBy_35 flX12_82 rfl (Or.inl rfl) (by first | assumption | rfl) ?_
      rw [(show pu I1 93 m (nI (1 + rest % H 0)) 67 41 = nI (H 0) by rw [pu_ne _ _ _ (by decide)]; exact (hf 67 41 (by decide)).trans hH.1)]
      refine pE_idivN dX12_paidBy_38 (by omega) (by omega) (by omega) ?_
      refine pE_istore (lc' := [_, _, _, _, some (.int _), _, _]) dX12_paidBy_39 (Nat.le_of_ble_eq_true rfl) rfl rfl ?_
      refine pE_iload dX12_paidBy_41 rfl ?_
      refine pE_aload_n dX12_paidBy_43 rfl rfl ?_
      refine pE_getR dX12_paidBy_44 flX12_94 rfl (by first | assumption | rfl) (by first | assumption | rfl) ?_
      refine pE_iload dX12_paidBy_47 rfl ?_
      refine pE_ialoadN dX12_paidBy_49 (by first | assumption | rfl) (by first | assumption | omega) (by omega) ?_
      rw [(show pu I1 93 m (nI (1 + rest % H 0)) 93 m = nI (1 + rest % H 0) by rw [pu_at, if_pos ⟨rfl, rfl⟩])]
      refine pE_iaddN dX12_paidBy_50 ?_
      refine pE_istore (lc' := [_, _, _, _, _, some (.int _), _]) dX12_paidBy_51 (Nat.le_of_ble_eq_true rfl) rfl rfl ?_
      refine pE_iinc (c0 := -1) (lc' := [_, _, _, _, _, _, some (.int _)]) dX12_paidBy_53 rfl rfl rfl rfl ?_
      refine pE_goto (tgt := 11) dX12_paidBy_56 (by decide) ?_
      refine pE_cg (ih (rest / H 0) ((1 + rest % H 0) :: S) _ (by simp only [List.length_cons]; omega) (by omega) (by rw [he]; simp only [dgL]; rw [List.append_assoc]; rfl) (fun cc k h => by rw [pu_ne _ _ _ h]; exact hf cc k h) (fun i hi => ?_)) (by simp only [smL]; rw [Nat.add_comm]) rfl rfl rfl rfl
      rw [pu_at]
      cases i with
      | zero => rw [if_pos ⟨rfl, rfl⟩]; rfl
      | succ i =>
        rw [if_neg (by omega), show m + (i + 1) = m + 1 + i by omega, hv i (by simp only [List.length_cons] at hi; omega)]
        rfl
/-- a state behind a row of climbs -/
def bhT (p : pP) (H T : pN) (a : Nat) (P : List Nat) (T1 : pN) : Prop := T1 24 = T 24 + smL P ∧ T1 25 = T 25 ∧ T1 26 = T 26 ∧ T1 (8 + a) = min 9999 (T (8 + a) + vlL (gC p T) 0 P) ∧ T1 (16 + a) = T (16 + a) ∧ T1 a = T a - smL P
theorem bh_0 {p : pP} {H T : pN} {a : Nat} (h : T (8 + a) ≤ 9999) : bhT p H T a [] T := ⟨rfl, rfl, rfl, by simp only [vlL]; omega, rfl, rfl⟩
theorem bh_1 {p : pP} {H T T1 : pN} {a s : Nat} {P : List Nat} (ha : a < 8) (h : bhT p H T a P T1) : bhT p H T a (P ++ [s]) (walkN T1 a s 0 (gC p T s (smL P))) := by
  obtain ⟨h1, h2, h3, h4, h5, h6⟩ := h
  obtain ⟨w1, w2, w3, w4, w5, w6⟩ := walk_at (T := T1) (s := s) (c := gC p T s (smL P)) ha
  refine ⟨by rw [w1, h1, smL_app]; simp only [smL]; omega, by rw [w2, h2], by rw [w3, h3], ?_, by rw [w5, h5], by rw [w6, h6, smL_app]; simp only [smL]; omega⟩
  rw [w4, h4, vl_app]
  simp only [vlL, Nat.zero_add]
  omega
set_option maxHeartbeats 400000 in
set_option maxRecDepth 100000 in
theorem LB_X12_paidBy {l : Launch} {X : pX} {t g : Nat} {I : pHI} {J : pHJ} {Q : pQ} {a c code : Nat} {y4 : Option Value} {H T : pN} {p0 p : pP} (hH : mH H I) (hr : rH H) (hrT : rS 999 H T) (hF : mF 0 p0 I) (hw : p0 = [] ∨ wfp p0 0) (hp0 : fR 0 p0 p) (ha : a < H 1) (hc : c ≤ 4) (hsm : smL (dgL (H 0) c code) ≤ T a) (h1 : fwV p H T a (dgL (H 0) c code) → ∀ I1, sz I I1 → (∀ i, i < c → I1 93 i = nI ((dgL (H 0) c code).getD i 0)) → Q (some (.int (nI (smL (dgL (H 0) c code))))) I1 J (pR t g)) (h0 : ¬ fwV p H T a (dgL (H 0) c code) → ∀ I1, sz I I1 → Q (some (.int (-1))) I1 J (pR t g)) : ∀ (fu : Nat) (j : Nat) (T1 : pN) (I1 : pHI), c - j < fu → (j ≤ c) → (sz I I1) → (mS 91 T1 I1) → (rS 999 H T1) → (bhT p H T a ((dgL (H 0) c code).take j) T1) → (∀ i, i < c → I1 93 i = nI ((dgL (H 0) c code).getD i 0)) → pE l X mX12_paidBy 4 pK 79 [some (.ref 67), some (.int (nI a)), some (.int (nI c)), some (.int (nI code)), y4, some (.int (nI (smL (dgL (H 0) c code)))), some (.int (nI j))] [] pK I1 J (pR t g) Q := by
  intro fu
  induction fu with
  | zero => intro j T1 I1 hn; exact absurd hn (Nat.not_lt_zero _)
  | succ fu ih =>
    intro j T1 I1 hn hj hx hT1 hrT1 hbh hv
    have hn8 := hr.2.1
    have hn20 := hr.1.2
    have hn1 := hr.1.1
    have hT40 := (hrT.2.2.2.2 a (by omega)).1
    have hlb := lack_leB hr hrT1 (show a < 8 by omega)
    have hH1 := hH.sz hx
    have hlen := dg_len (H 0) c code
    have hok := dg_ok hn1 c code
    have hst : ∀ (hjc : j < c), ((dgL (H 0) c code).getD j 0) = (dgL (H 0) c code)[j]'(by omega) ∧ (dgL (H 0) c code).take (j + 1) = (dgL (H 0) c code).take j ++ [(dgL (H 0) c code).getD j 0] := fun hjc => by
      have e : (dgL (H 0) c code).getD j 0 = (dgL (H 0) c code)[j]'(by omega) := by
        show ((dgL (H 0) c code)[j]?).getD 0 = _
        rw [List.getElem?_eq_getElem (by omega)]
        rfl
      exact ⟨e, by rw [e, List.take_succ_eq_append_getElem (by omega)]⟩
    have hgd : ∀ (hjc : j < c), 1 ≤ (dgL (H 0) c code).getD j 0 ∧ (dgL (H 0) c code).getD j 0 ≤ H 0 := fun hjc => by
      rw [(hst hjc).1]
      exact hok _ (List.getElem_mem _)
    have hsj : ∀ (hjc : j < c), smL ((dgL (H 0) c code).take j) + (dgL (H 0) c code).getD j 0 ≤ smL (dgL (H 0) c code) := fun hjc => by
      have h1 := congrArg smL (List.take_append_drop (j + 1) (dgL (H 0) c code))
      rw [smL_app, (hst hjc).2, smL_app] at h1
      simp only [smL] at h1
      omega
    refine pE_iload dX12_paidBy_79 rfl ?_
    refine pE_iload_n dX12_paidBy_81 rfl rfl ?_
    refine pE_icmp_ge (tgt := 117) dX12_paidBy_82 (by decide) (fun h82 => ?_) (fun h82 => ?_)
    · have g82 := nq_le (by omega) (by omega) h82
      obtain rfl : j = c := by omega
      rw [List.take_of_length_le (by omega)] at hbh
      obtain ⟨q1, q2, q3, q4, q5, q6⟩ := hbh
      have hld : lackN H T1 a = H (32 + a) + T1 (16 + a) - T1 (8 + a) := rfl
      have hld0 : lackN H T a = H (32 + a) + T (16 + a) - T (8 + a) := rfl
      have h89 := (hrT.2.2.2.2 a (by omega)).2.1
      refine pE_aload_n dX12_paidBy_117 rfl rfl ?_
      refine pE_iload_n dX12_paidBy_118 rfl rfl ?_
      refine pE_callV (d' := 1) (as := [_]) dX12_paidBy_119 lkX12_397 (cwX12_lackOf _ _) ivX12_lackOf ⟨_, rfl, rfl⟩ (by first | assumption | rfl) rfl rfl (Nat.le_of_ble_eq_true rfl) (by decide) pKK ?_
      refine M_X12_lackOf (H := H) (T := T1) (hH1.2.2.2 a ha).2.2.2.1 (hT1 (16 + a) (by omega)) (hT1 (8 + a) (by omega)) (by omega) hlb.1 hlb.2.1 hlb.2.2.1 ?_
      refine pE_if_ne (tgt := 130) dX12_paidBy_122 (by decide) (fun h122 => ?_) (fun h122 => ?_)
      · have g122 := nq_ne0 (by omega) h122
        refine pE_iconst (v := -1) dX12_paidBy_130 rfl ?_
        refine pE_iret dX12_paidBy_131 rfl rfl ?_
        first
        | exact h1 ⟨hok, hsm, by omega, by omega⟩ I1 hx hv
        | exact h0 (fun hf => by have f1 := hf.2.2.1; have f2 := hf.2.2.2; omega) I1 hx
      · have g122 := nq_eq0 (by omega) h122
        refine pE_iload dX12_paidBy_125 rfl ?_
        refine pE_goto (tgt := 131) dX12_paidBy_127 (by decide) ?_
        refine pE_iret dX12_paidBy_131 rfl rfl ?_
        first
        | exact h1 ⟨hok, hsm, by omega, by omega⟩ I1 hx hv
        | exact h0 (fun hf => by have f1 := hf.2.2.1; have f2 := hf.2.2.2; omega) I1 hx
    · have g82 := nq_nle (by omega) (by omega) h82
      refine pE_aload_n dX12_paidBy_85 rfl rfl ?_
      refine pE_iload_n dX12_paidBy_86 rfl rfl ?_
      refine pE_aload_n dX12_paidBy_87 rfl rfl ?_
      refine pE_getR dX12_paidBy_88 flX12_94 rfl (by first | assumption | rfl) (by first | assumption | rfl) ?_
      refine pE_iload dX12_paidBy_91 rfl ?_
      refine pE_ialoadN dX12_paidBy_93 (by first | assumption | rfl) (by first | assumption | omega) (by omega) ?_
      rw [hv j (by omega)]
      refine pE_iconst (v := -1) dX12_paidBy_94 rfl ?_
      refine pE_aload_n dX12_paidBy_95 rfl rfl ?_
      refine pE_aload_n dX12_paidBy_96 rfl rfl ?_
      refine pE_getR dX12_paidBy_97 flX12_94 rfl (by first | assumption | rfl) (by first | assumption | rfl) ?_
      refine pE_iload dX12_paidBy_100 rfl ?_
      refine pE_ialoadN dX12_paidBy_102 (by first | assumption | rfl) (by first | assumption | omega) (by omega) ?_
      rw [hv j (by omega)]
      refine pE_iconst (v := -1) dX12_paidBy_103 rfl ?_
      refine pE_iconst (v := nI 0) dX12_paidBy_104 rfl ?_
      refine pE_callV (d' := 3) (as := [_, _, _]) dX12_paidBy_105 lkX12_404 (cwX12_countOf _ _) ivX12_countOf ⟨_, rfl, rfl⟩ (by first | assumption | rfl) rfl rfl (Nat.le_of_ble_eq_true rfl) (by decide) pKK ?_
      refine M_X12_countOf_0 (hF.sz hx) hw hT1 (fun I2 hb2 => ?_)
      rw [fr_cnt hp0, cnt_cg (T1 := T1) (T := T) (b := smL ((dgL (H 0) c code).take j)) hbh.2.1 hbh.2.2.1 hbh.1]
      refine pE_callV (d' := 1) (as := [_, _, _, _]) dX12_paidBy_108 lkX12_410 (cwX12_goClimb _ _) ivX12_goClimb ⟨_, rfl, rfl⟩ (by first | assumption | rfl) rfl rfl (Nat.le_of_ble_eq_true rfl) (by decide) pKK ?_
      refine M_X12_goClimb_0 (hT1.sb (Or.inr rfl) hb2) (by omega) hlb.2.2.1 (gC_le p T _ _) (by have := hgd (by omega); omega) (by rw [brN0, hbh.2.2.2.2.2]; have := hsj (by omega); omega) (fun I3 hx3 hT3 => ?_)
      refine pE_iincN (c0 := 1) (lc' := [_, _, _, _, _, _, some (.int _)]) dX12_paidBy_111 rfl rfl rfl rfl ?_
      refine pE_goto (tgt := 79) dX12_paidBy_114 (by decide) ?_
      refine ih (j + 1) _ I3 (by omega) (by omega) ((hx.tr hb2.sm.sz).tr hx3.sz) hT3 (rS_walk hrT1 (by omega)) ?_ (fun i hi => ?_)
      · rw [(hst (by omega)).2]
        exact bh_1 (by omega) hbh
      · rw [hx3 93 i (by simp [scF]) (by decide), hb2 93 i (by simp [scF])]
        exact hv i hi
set_option maxHeartbeats 400000 in
set_option maxRecDepth 100000 in
theorem M_X12_paidBy {l : Launch} {X : pX} {t g : Nat} {I : pHI} {J : pHJ} {Q : pQ} {a c code : Nat} {H T : pN} {p0 p : pP} (hH : mH H I) (hr : rH H) (hrT : rS 999 H T) (hF : mF 0 p0 I) (hw : p0 = [] ∨ wfp p0 0) (hp0 : fR 0 p0 p) (ha : a < H 1) (hS : mS 90 T I) (hcd : code < 2 ^ 31) (hc : c ≤ 4) (h1 : fwV p H T a (dgL (H 0) c code) → ∀ I1, sz I I1 → (∀ i, i < c → I1 93 i = nI ((dgL (H 0) c code).getD i 0)) → Q (some (.int (nI (smL (dgL (H 0) c code))))) I1 J (pR t g)) (h0 : ¬ fwV p H T a (dgL (H 0) c code) → ∀ I1, sz I I1 → Q (some (.int (-1))) I1 J (pR t g)) : pM l X yX12_paidBy mX12_paidBy 4 [.ref 67, .int (nI a), .int (nI c), .int (nI code)] pK pK I J (pR t g) Q := by
  have hn8 := hr.2.1
  have hT40 := (hrT.2.2.2.2 a (by omega)).1
  refine pM_of rfl (fun h => by cases h) rfl pKM (Nat.le_of_ble_eq_true rfl) ?_
  refine pE_iload_n dX12_paidBy_0 rfl rfl ?_
  refine pE_istore (lc' := [_, _, _, _, some (.int _), _, _]) dX12_paidBy_1 (Nat.le_of_ble_eq_true rfl) rfl rfl ?_
  refine pE_iconst (v := nI 0) dX12_paidBy_3 rfl ?_
  refine pE_istore (lc' := [_, _, _, _, _, some (.int _), _]) dX12_paidBy_4 (Nat.le_of_ble_eq_true rfl) rfl rfl ?_
  refine pE_iload_n dX12_paidBy_6 rfl rfl ?_
  refine pE_iconst (v := nI 1) dX12_paidBy_7 rfl ?_
  refine pE_isub dX12_paidBy_8 ?_
  refine pE_istore (lc' := [_, _, _, _, _, _, some (.int _)]) dX12_paidBy_9 (Nat.le_of_ble_eq_true rfl) rfl rfl ?_
  refine pE_cg (LA_X12_paidBy (I := I) (a := a) hH hr hcd hc (fun I2 y4 f2 h2 => ?_) c code [] I (by simp) hcd (by simp) (fun _ _ _ => rfl) (fun i hi => by simp at hi)) (by rw [Int32.sub_eq_add_neg]; rfl) rfl rfl rfl rfl
  have hsmb : smL (dgL (H 0) c code) ≤ 80 := by
    have key : ∀ (L : List Nat), okL (H 0) L → smL L ≤ 20 * L.length := by
      intro L
      induction L with
      | nil => intro _; exact Nat.le_refl _
      | cons s L ih => intro h; have h3 := okL_cons.mp h; have := ih h3.2; have := hr.1.2; simp only [smL, List.length_cons]; omega
    have h4 := key _ (dg_ok hr.1.1 c code)
    rw [dg_len] at h4
    omega
  have hz : sz I I2 := fun cc k _ b => f2 cc k (fun e => b (by subst e; simp [scM]))
  refine pE_iload dX12_paidBy_59 rfl ?_
  refine pE_aload_n dX12_paidBy_61 rfl rfl ?_
  refine pE_getR dX12_paidBy_62 flX12_85 rfl (by first | assumption | rfl) (by first | assumption | rfl) ?_
  refine pE_iload_n dX12_paidBy_65 rfl rfl ?_
  refine pE_ialoadN dX12_paidBy_66 (by first | assumption | rfl) (by first | assumption | omega) (by omega) ?_
  rw [(f2 90 a (by decide)).trans (hS a (by omega))]
  refine pE_icmp_le (tgt := 72) dX12_paidBy_67 (by decide) (fun h67 => ?_) (fun h67 => ?_)
  · have g67 := nq_le (by omega) (by omega) h67
    refine pE_aload_n dX12_paidBy_72 rfl rfl ?_
    refine pE_callV (d' := 0) (as := []) dX12_paidBy_73 lkX12_394 (cwX12_load _ _) ivX12_load ⟨_, rfl, rfl⟩ (by first | assumption | rfl) rfl rfl (Nat.le_of_ble_eq_true rfl) (by decide) pKK ?_
    refine M_X12_load ?_
    refine pE_iconst (v := nI 0) dX12_paidBy_76 rfl ?_
    refine pE_istore (lc' := [_, _, _, _, _, _, some (.int _)]) dX12_paidBy_77 (Nat.le_of_ble_eq_true rfl) rfl rfl ?_
    have hzl : sz I (pz I2 91 (fun q => if q < 28 then I2 90 q else I2 91 q)) := hz.tr sm.load.sz
    refine LB_X12_paidBy hH hr hrT hF hw hp0 ha hc (by omega) h1 h0 (c + 1) 0 T _ (by omega) (by omega) hzl (fun k hk => ?_) hrT (bh_0 (hrT.2.2.2.2 a (by omega)).2.1) (fun i hi => ?_)
    · rw [pz_eq, if_pos hk]; exact (f2 90 k (by decide)).trans (hS k hk)
    · rw [pz_ne _ _ (by decide)]; exact h2 i hi
  · have g67 := nq_nle (by omega) (by omega) h67
    refine pE_iconst (v := -1) dX12_paidBy_70 rfl ?_
    refine pE_iret dX12_paidBy_71 rfl rfl ?_
    exact h0 (fun hf => by have := hf.2.1; omega) _ hz
