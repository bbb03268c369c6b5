set_option maxHeartbeats 4000000 in
set_option maxRecDepth 100000 in
theorem L_X11_calmIn {l : Launch} {X : pX} {t g : Nat} {I : pHI} {J : pHJ} {Q : pQ} {w a : Nat} {H : pN} {s0 : Nat × Option (Nat × Nat)} (ht : isH t) (hH : cH t H I) (hr : rH H) (hw : w ≤ 2) (ha : a < H 1) (hs0 : clG (H 1) s0) (hq : ∀ v7, pE l X mX11_calm 3 pK 95 [some (.ref 0), some (.int (nI w)), some (.int (cf1 (clI (envE H) a (H 1 - (a + 1)) s0).2)), some (.int (cf2 (clI (envE H) a (H 1 - (a + 1)) s0).2)), some (.int (nI (clI (envE H) a (H 1 - (a + 1)) s0).1)), some (.int (nI a)), some (.int (nI (a + 1 + (H 1 - (a + 1))))), v7] [] pK I J (pR t g) Q) : ∀ (n : Nat) (k : Nat) (v7 : Option Value), H 1 - (a + 1) - k < n → (k ≤ H 1 - (a + 1)) → pE l X mX11_calm 3 pK 47 [some (.ref 0), some (.int (nI w)), some (.int (cf1 (clI (envE H) a k s0).2)), some (.int (cf2 (clI (envE H) a k s0).2)), some (.int (nI (clI (envE H) a k s0).1)), some (.int (nI a)), some (.int (nI (a + 1 + k))), v7] [] pK I J (pR t g) Q := by
  obtain ⟨fHFht0, fHFht1, fHFht2, fHFht3, fHFht4, fHFht5, fHFht6, fHFht7, fHFht8, fHFht9, fHFht10, fHFht11, fHFht12, fHFht13, fHFht14, fHFht15, fHFht16, fHFht17, fHFht18, fHFht19, fHFht20, fHFht21, fHFht22, fHFht23, fHFht24, fHFht25, fHFht26⟩ := HF t g ht
  intro n
  induction n with
  | zero => intro k v7 hn; exact absurd hn (Nat.not_lt_zero _)
  | succ n ih =>
    intro k v7 hn hk
    have hn8 := hr.2.1
    have hn20 := hr.1.2
    have hok := clI_ok (E := envE H) (a := a) hs0 k (by omega)
    have hel := envE_le (H := H) hn8 a (a + 1 + k)
    have hcl := hok.1
    refine pE_iload dX11_calm_47 rfl ?_
    refine pE_aload_n dX11_calm_49 rfl rfl ?_
    refine pE_getR dX11_calm_50 flX11_29 rfl (by first | assumption | rfl) (by first | assumption | rfl) ?_
    refine pE_getI dX11_calm_53 flX11_110 rfl (Or.inl rfl) (by first | assumption | rfl) ?_
    rw [hH.2.2.1]
    refine pE_icmp_ge (tgt := 95) dX11_calm_56 (by decide) (fun h56 => ?_) (fun h56 => ?_)
    · have g56 := nq_le (by omega) (by omega) h56
      obtain rfl : k = H 1 - (a + 1) := by omega
      exact hq _
    · have g56 := nq_nle (by omega) (by omega) h56
      refine pE_aload_n dX11_calm_59 rfl rfl ?_
      refine pE_getR dX11_calm_60 flX11_29 rfl (by first | assumption | rfl) (by first | assumption | rfl) ?_
      refine pE_iload dX11_calm_63 rfl ?_
      refine pE_iload dX11_calm_65 rfl ?_
      refine pE_callV (d' := 2) (as := [_, _]) dX11_calm_67 lkX11_296 (cwX2_enviesIfSwapped _ _) ivX2_enviesIfSwapped ⟨_, rfl, rfl⟩ (by first | assumption | rfl) rfl rfl (Nat.le_of_ble_eq_true rfl) (by decide) pKK ?_
      refine M_X2_enviesIfSwapped ht hH hr (fun i hi hq2 => M_X2_storeyIfSwapped_c ht hH hr hi ha (by omega) hq2) (sw_le (fun i hi => Nat.le_trans (hr.2.2.2.2 i (by omega)).1 hn20) ha (by omega)) ?_
      rw [show allE H (swH (fun k => H (8 + k)) a (a + 1 + k)) (H 1) = envE H a (a + 1 + k) from rfl]
      refine pE_istore (lc' := [_, _, _, _, _, _, _, some (.int _)]) dX11_calm_70 (Nat.le_of_ble_eq_true rfl) rfl rfl ?_
      refine pE_iload dX11_calm_72 rfl ?_
      refine pE_iload dX11_calm_74 rfl ?_
      refine pE_icmp_ge (tgt := 89) dX11_calm_76 (by decide) (fun h76 => ?_) (fun h76 => ?_)
      · have g76 := nq_le (by omega) (by omega) h76
        refine pE_iincN (c0 := 1) (lc' := [_, _, _, _, _, _, some (.int _), _]) dX11_calm_89 rfl rfl rfl rfl ?_
        refine pE_goto (tgt := 47) dX11_calm_92 (by decide) ?_
        refine pE_cg (ih (k + 1) _ (by omega) (by omega)) (by
            first | (rw [clI_y (by omega)]; rfl) | (rw [clI_n (by omega)]; rfl)) rfl rfl rfl rfl
      · have g76 := nq_nle (by omega) (by omega) h76
        refine pE_iload dX11_calm_79 rfl ?_
        refine pE_istore (lc' := [_, _, _, _, some (.int _), _, _, _]) dX11_calm_81 (Nat.le_of_ble_eq_true rfl) rfl rfl ?_
        refine pE_iload dX11_calm_83 rfl ?_
        refine pE_istore_n (lc' := [_, _, some (.int _), _, _, _, _, _]) dX11_calm_85 rfl (Nat.le_of_ble_eq_true rfl) rfl rfl ?_
        refine pE_iload dX11_calm_86 rfl ?_
        refine pE_istore_n (lc' := [_, _, _, some (.int _), _, _, _, _]) dX11_calm_88 rfl (Nat.le_of_ble_eq_true rfl) rfl rfl ?_
        refine pE_iincN (c0 := 1) (lc' := [_, _, _, _, _, _, some (.int _), _]) dX11_calm_89 rfl rfl rfl rfl ?_
        refine pE_goto (tgt := 47) dX11_calm_92 (by decide) ?_
        refine pE_cg (ih (k + 1) _ (by omega) (by omega)) (by
            first | (rw [clI_y (by omega)]; rfl) | (rw [clI_n (by omega)]; rfl)) rfl rfl rfl rfl
set_option maxHeartbeats 4000000 in
set_option maxRecDepth 100000 in
theorem L_X11_calm {l : Launch} {X : pX} {t g : Nat} {I : pHI} {J : pHJ} {Q : pQ} {w : Nat} {H : pN} (ht : isH t) (hH : cH t H I) (hr : rH H) (hw : w ≤ 2) (hq : Q (some (.int (calA (calN H) w))) I J (pR t g)) : ∀ (n : Nat) (j : Nat) (v6 : Option Value) (v7 : Option Value), H 1 - j < n → (j ≤ H 1) → pE l X mX11_calm 3 pK 29 [some (.ref 0), some (.int (nI w)), some (.int (cf1 (clO (envE H) (H 1) (allE H (fun k => H (8 + k)) (H 1)) j).2)), some (.int (cf2 (clO (envE H) (H 1) (allE H (fun k => H (8 + k)) (H 1)) j).2)), some (.int (nI (clO (envE H) (H 1) (allE H (fun k => H (8 + k)) (H 1)) j).1)), some (.int (nI j)), v6, v7] [] pK I J (pR t g) Q := by
  obtain ⟨fHFht0, fHFht1, fHFht2, fHFht3, fHFht4, fHFht5, fHFht6, fHFht7, fHFht8, fHFht9, fHFht10, fHFht11, fHFht12, fHFht13, fHFht14, fHFht15, fHFht16, fHFht17, fHFht18, fHFht19, fHFht20, fHFht21, fHFht22, fHFht23, fHFht24, fHFht25, fHFht26⟩ := HF t g ht
  intro n
  induction n with
  | zero => intro j v6 v7 hn; exact absurd hn (Nat.not_lt_zero _)
  | succ n ih =>
    intro j v6 v7 hn hj
    have hn8 := hr.2.1
    have hn20 := hr.1.2
    have hok := clO_ok (E := envE H) (allE_le H (fun k => H (8 + k)) hn8 (H 1) hn8) j hj
    have hcl := hok.1
    refine pE_iload dX11_calm_29 rfl ?_
    refine pE_aload_n dX11_calm_31 rfl rfl ?_
    refine pE_getR dX11_calm_32 flX11_29 rfl (by first | assumption | rfl) (by first | assumption | rfl) ?_
    refine pE_getI dX11_calm_35 flX11_110 rfl (Or.inl rfl) (by first | assumption | rfl) ?_
    rw [hH.2.2.1]
    refine pE_icmp_ge (tgt := 101) dX11_calm_38 (by decide) (fun h38 => ?_) (fun h38 => ?_)
    · have g38 := nq_le (by omega) (by omega) h38
      obtain rfl : j = H 1 := by omega
      rw [show clO (envE H) (H 1) (allE H (fun k => H (8 + k)) (H 1)) (H 1) = calN H from rfl] at *
      cases e : (calN H).2 with
      | none =>
        have e9 : calA (calN H) w = -1 := by unfold calA; rw [e]
        rw [e9] at hq
        rw [show cf1 none = (-1 : Int32) from rfl]
        refine pE_iload_n dX11_calm_101 rfl rfl ?_
        refine pE_iconst (v := -1) dX11_calm_102 rfl ?_
        refine pE_icmp_ne (tgt := 108) dX11_calm_103 (by decide) (fun h103 => ?_) (fun h103 => ?_)
        · exact absurd rfl h103
        · refine pE_iconst (v := -1) dX11_calm_106 rfl ?_
          refine pE_iret dX11_calm_107 rfl rfl ?_
          exact hq
      | some b =>
        have hb := hok.2 b e
        have e9 : calA (calN H) w = if w = 0 then nI b.1 else if w = 1 then nI b.2 else nI (calN H).1 := by unfold calA; rw [e]
        rw [e9] at hq
        rw [show cf1 (some b) = nI b.1 from rfl, show cf2 (some b) = nI b.2 from rfl]
        refine pE_iload_n dX11_calm_101 rfl rfl ?_
        refine pE_iconst (v := -1) dX11_calm_102 rfl ?_
        refine pE_icmp_ne (tgt := 108) dX11_calm_103 (by decide) (fun h103 => ?_) (fun h103 => ?_)
        · refine pE_iload_n dX11_calm_108 rfl rfl ?_
          refine pE_if_ne (tgt := 114) dX11_calm_109 (by decide) (fun h109 => ?_) (fun h109 => ?_)
          · have g109 := nq_ne0 (by omega) h109
            refine pE_iload_n dX11_calm_114 rfl rfl ?_
            refine pE_iconst (v := nI 1) dX11_calm_115 rfl ?_
            refine pE_icmp_ne (tgt := 123) dX11_calm_116 (by decide) (fun h116 => ?_) (fun h116 => ?_)
            · have g116 := nq_ne (by omega) (by omega) h116
              refine pE_iload dX11_calm_123 rfl ?_
              refine pE_iret dX11_calm_125 rfl rfl ?_
              first
              | exact hq
              | (rw [if_pos (by omega)] at hq; exact hq)
              | (rw [if_neg (by omega), if_pos (by omega)] at hq; exact hq)
              | (rw [if_neg (by omega), if_neg (by omega)] at hq; exact hq)
            · have g116 := nq_eq (by omega) (by omega) h116
              refine pE_iload_n dX11_calm_119 rfl rfl ?_
              refine pE_goto (tgt := 125) dX11_calm_120 (by decide) ?_
              refine pE_iret dX11_calm_125 rfl rfl ?_
              first
              | exact hq
              | (rw [if_pos (by omega)] at hq; exact hq)
              | (rw [if_neg (by omega), if_pos (by omega)] at hq; exact hq)
              | (rw [if_neg (by omega), if_neg (by omega)] at hq; exact hq)
          · have g109 := nq_eq0 (by omega) h109
            refine pE_iload_n dX11_calm_112 rfl rfl ?_
            refine pE_iret dX11_calm_113 rfl rfl ?_
            first
            | exact hq
            | (rw [if_pos (by omega)] at hq; exact hq)
            | (rw [if_neg (by omega), if_pos (by omega)] at hq; exact hq)
            | (rw [if_neg (by omega), if_neg (by omega)] at hq; exact hq)
        · exact absurd h103 (nI_m1n (by omega))
    · have g38 := nq_nle (by omega) (by omega) h38
      refine pE_iload dX11_calm_41 rfl ?_
      refine pE_iconst (v := nI 1) dX11_calm_43 rfl ?_
      refine pE_iaddN dX11_calm_44 ?_
      refine pE_istore (lc' := [_, _, _, _, _, _, some (.int _), _]) dX11_calm_45 (Nat.le_of_ble_eq_true rfl) rfl rfl ?_
      refine L_X11_calmIn ht hH hr hw (by omega) hok (fun v7 => ?_) (H 1 + 1) 0 _ (by omega) (by omega)
      refine pE_iincN (c0 := 1) (lc' := [_, _, _, _, _, some (.int _), _, _]) dX11_calm_95 rfl rfl rfl rfl ?_
      refine pE_goto (tgt := 29) dX11_calm_98 (by decide) ?_
      exact ih (j + 1) _ _ (by omega) (by omega)
set_option maxHeartbeats 4000000 in
set_option maxRecDepth 100000 in
theorem M_X11_calm {l : Launch} {X : pX} {t g : Nat} {I : pHI} {J : pHJ} {Q : pQ} {x : Int32} {H : pN} (ht : isH t) (hH : cH t H I) (hr : rH H) (h1 : ∀ w, w ≤ 2 → x = nI w → Q (some (.int (calA (calN H) w))) I J (pR t g)) (h0 : (∀ w, w ≤ 2 → x ≠ nI w) → Q (some (.int (-1))) I J (pR t g)) : pM l X yX11_calm mX11_calm 3 [.ref 0, .int x] pK pK I J (pR t g) Q := by
  obtain ⟨fHFht0, fHFht1, fHFht2, fHFht3, fHFht4, fHFht5, fHFht6, fHFht7, fHFht8, fHFht9, fHFht10, fHFht11, fHFht12, fHFht13, fHFht14, fHFht15, fHFht16, fHFht17, fHFht18, fHFht19, fHFht20, fHFht21, fHFht22, fHFht23, fHFht24, fHFht25, fHFht26⟩ := HF t g ht
  refine pM_of rfl (fun h => by cases h) rfl pKM (Nat.le_of_ble_eq_true rfl) ?_
  have hn8 := hr.2.1
  have hn20 := hr.1.2
  rcases nI_or x with hx | ⟨w, hw, rfl⟩
  · refine pE_iload_n dX11_calm_0 rfl rfl ?_
    refine pE_if_lt (tgt := 9) dX11_calm_1 (by decide) (fun h1' => ?_) (fun h1' => ?_)
    · refine pE_iconst (v := -1) dX11_calm_9 rfl ?_
      refine pE_iret dX11_calm_10 rfl rfl ?_
      exact h0 (fun s hs e => by rw [e] at hx; exact absurd hx (nI_pos (by omega)))
    · exact absurd hx h1'
  · refine pE_iload_n dX11_calm_0 rfl rfl ?_
    refine pE_if_lt (tgt := 9) dX11_calm_1 (by decide) (fun h1' => ?_) (fun h1' => ?_)
    · exact absurd h1' (nI_pos (by omega))
    · refine pE_iload_n dX11_calm_4 rfl rfl ?_
      refine pE_iconst (v := nI 2) dX11_calm_5 rfl ?_
      refine pE_icmp_le (tgt := 11) dX11_calm_6 (by decide) (fun h6 => ?_) (fun h6 => ?_)
      · have g6 := nq_le (by omega) (by omega) h6
        refine pE_iconst (v := -1) dX11_calm_11 rfl ?_
        refine pE_istore_n (lc' := [_, _, some (.int _), _, _, _, _, _]) dX11_calm_12 rfl (Nat.le_of_ble_eq_true rfl) rfl rfl ?_
        refine pE_iconst (v := -1) dX11_calm_13 rfl ?_
        refine pE_istore_n (lc' := [_, _, _, some (.int _), _, _, _, _]) dX11_calm_14 rfl (Nat.le_of_ble_eq_true rfl) rfl rfl ?_
        refine pE_aload_n dX11_calm_15 rfl rfl ?_
        refine pE_getR dX11_calm_16 flX11_29 rfl (by first | assumption | rfl) (by first | assumption | rfl) ?_
        refine pE_iconst (v := -1) dX11_calm_19 rfl ?_
        refine pE_iconst (v := -1) dX11_calm_20 rfl ?_
        refine pE_callV (d' := 2) (as := [_, _]) dX11_calm_21 lkX11_296 (cwX2_enviesIfSwapped _ _) ivX2_enviesIfSwapped ⟨_, rfl, rfl⟩ (by first | assumption | rfl) rfl rfl (Nat.le_of_ble_eq_true rfl) (by decide) pKK ?_
        refine M_X2_enviesIfSwapped ht hH hr (fun i hi hq2 => M_X2_storeyIfSwapped_0 ht hH hr hi hq2) (fun i hi => Nat.le_trans (hr.2.2.2.2 i (by omega)).1 hn20) ?_
        refine pE_istore (lc' := [_, _, _, _, some (.int _), _, _, _]) dX11_calm_24 (Nat.le_of_ble_eq_true rfl) rfl rfl ?_
        refine pE_iconst (v := nI 0) dX11_calm_26 rfl ?_
        refine pE_istore (lc' := [_, _, _, _, _, some (.int _), _, _]) dX11_calm_27 (Nat.le_of_ble_eq_true rfl) rfl rfl ?_
        exact L_X11_calm ht hH hr (by omega) (h1 w (by omega) rfl) (H 1 + 1) 0 _ _ (by omega) (by omega)
      · have g6 := nq_nle (by omega) (by omega) h6
        refine pE_iconst (v := -1) dX11_calm_9 rfl ?_
        refine pE_iret dX11_calm_10 rfl rfl ?_
        exact h0 (fun s hs e => by have := nq_eq (by omega) (by omega) e; omega)
set_option maxHeartbeats 4000000 in
set_option maxRecDepth 100000 in
theorem M_X12_changeHomes {l : Launch} {X : pX} {t g : Nat} {I : pHI} {J : pHJ} {Q : pQ} {n a b : Nat} {h : Nat → Nat} (hn : n ≤ 8) (hho : ∀ j, j < n → I 99 j = nI (h j)) (ha : a < n) (hb : b < n) (hq : ∀ I1, (∀ c k, c ≠ 99 → I1 c k = I c k) → (∀ j, j < n → I1 99 j = nI (swH h a b j)) → Q none I1 J (pR t g)) : pM l X yX12_changeHomes mX12_changeHomes 0 [.ref 67, .int (nI a), .int (nI b)] pK pK I J (pR t g) Q := by
  refine pM_of rfl (fun h => by cases h) rfl pKM (Nat.le_of_ble_eq_true rfl) ?_
  refine pE_aload_n dX12_changeHomes_0 rfl rfl ?_
  refine pE_getR dX12_changeHomes_1 flX12_112 rfl (by first | assumption | rfl) (by first | assumption | rfl) ?_
  refine pE_iload_n dX12_changeHomes_4 rfl rfl ?_
  refine pE_ialoadN dX12_changeHomes_5 (by first | assumption | rfl) (by first | assumption | omega) (by omega) ?_
  refine pE_istore_n (lc' := [_, _, _, some (.int _)]) dX12_changeHomes_6 rfl (Nat.le_of_ble_eq_true rfl) rfl rfl ?_
  refine pE_aload_n dX12_changeHomes_7 rfl rfl ?_
  refine pE_getR dX12_changeHomes_8 flX12_112 rfl (by first | assumption | rfl) (by first | assumption | rfl) ?_
  refine pE_iload_n dX12_changeHomes_11 rfl rfl ?_
  refine pE_aload_n dX12_changeHomes_12 rfl rfl ?_
  refine pE_getR dX12_changeHomes_13 flX12_112 rfl (by first | assumption | rfl) (by first | assumption | rfl) ?_
  refine pE_iload_n dX12_changeHomes_16 rfl rfl ?_
  refine pE_ialoadN dX12_changeHomes_17 (by first | assumption | rfl) (by first | assumption | omega) (by omega) ?_
  refine pE_iastoreN dX12_changeHomes_18 (by first | assumption | rfl) (by first | assumption | omega) (by omega) ?_
  refine pE_aload_n dX12_changeHomes_19 rfl rfl ?_
  refine pE_getR dX12_changeHomes_20 flX12_112 rfl (by first | assumption | rfl) (by first | assumption | rfl) ?_
  refine pE_iload_n dX12_changeHomes_23 rfl rfl ?_
  refine pE_iload_n dX12_changeHomes_24 rfl rfl ?_
  refine pE_iastoreN dX12_changeHomes_25 (by first | assumption | rfl) (by first | assumption | omega) (by omega) ?_
  refine pE_vret dX12_changeHomes_26 rfl rfl ?_
  refine hq _ (fun c k hc => by rw [pu_ne _ _ _ hc, pu_ne _ _ _ hc]) (fun j hj => ?_)
  rw [pu_at, pu_at]
  unfold swH
  by_cases e1 : j = b
  · subst e1
    rw [if_pos ⟨rfl, rfl⟩]
    by_cases e2 : j = a
    · subst e2; rw [if_pos rfl]; exact hho j hj
    · rw [if_neg e2, if_pos rfl]; exact hho a ha
  · rw [if_neg (fun q => e1 q.2)]
    by_cases e2 : j = a
    · rw [if_pos ⟨rfl, e2⟩, if_pos e2]; exact hho b hb
    · rw [if_neg (fun q => e2 q.2), if_neg e2, if_neg e1]; exact hho j hj
theorem sz.p99 {I I1 I2 : pHI} (h : sz I I1) (h2 : ∀ c k, c ≠ 99 → I2 c k = I1 c k) : sz I I2 := fun c k a b => by
  rw [h2 c k (fun e => b (by subst e; simp [scM]))]; exact h c k a b
set_option maxHeartbeats 4000000 in
set_option maxRecDepth 100000 in
theorem L_X12_calmIn {l : Launch} {X : pX} {t g : Nat} {I : pHI} {J : pHJ} {Q : pQ} {w a : Nat} {H : pN} {s0 : Nat × Option (Nat × Nat)} (hH : mH H I) (hr : rH H) (hw : w ≤ 2) (ha : a < H 1) (hs0 : clG (H 1) s0) (hq : ∀ v6 I1, sz I I1 → (∀ j, j < H 1 → I1 99 j = nI (H (8 + j))) → pE l X mX12_calm 2 pK 98 [some (.ref 67), some (.int (nI w)), some (.int (nI (clI (envE H) a (H 1 - (a + 1)) s0).1)), some (.int (cf3 (clI (envE H) a (H 1 - (a + 1)) s0).2)), some (.int (nI a)), some (.int (nI (a + 1 + (H 1 - (a + 1))))), v6] [] pK I1 J (pR t g) Q) : ∀ (n : Nat) (k : Nat) (v6 : Option Value) (I1 : pHI), H 1 - (a + 1) - k < n → (k ≤ H 1 - (a + 1)) → (sz I I1) → ((∀ j, j < H 1 → I1 99 j = nI (H (8 + j)))) → pE l X mX12_calm 2 pK 40 [some (.ref 67), some (.int (nI w)), some (.int (nI (clI (envE H) a k s0).1)), some (.int (cf3 (clI (envE H) a k s0).2)), some (.int (nI a)), some (.int (nI (a + 1 + k))), v6] [] pK I1 J (pR t g) Q := by
  intro n
  induction n with
  | zero => intro k v6 I1 hn; exact absurd hn (Nat.not_lt_zero _)
  | succ n ih =>
    intro k v6 I1 hn hk hx hho
    have hn8 := hr.2.1
    have hn20 := hr.1.2
    have hok := clI_ok (E := envE H) (a := a) hs0 k (by omega)
    have hel := envE_le (H := H) hn8 a (a + 1 + k)
    have hcl := hok.1
    have hH1 := hH.sz hx
    refine pE_iload dX12_calm_40 rfl ?_
    refine pE_aload_n dX12_calm_42 rfl rfl ?_
    refine pE_getI dX12_calm_43 flX12_350 rfl (Or.inl rfl) (by first | assumption | rfl) ?_
    rw [hH1.2.1]
    refine pE_icmp_ge (tgt := 98) dX12_calm_46 (by decide) (fun h46 => ?_) (fun h46 => ?_)
    · have g46 := nq_le (by omega) (by omega) h46
      obtain rfl : k = H 1 - (a + 1) := by omega
      exact hq _ _ hx hho
    · have g46 := nq_nle (by omega) (by omega) h46
      refine pE_aload_n dX12_calm_49 rfl rfl ?_
      refine pE_iload dX12_calm_50 rfl ?_
      refine pE_iload dX12_calm_52 rfl ?_
      refine pE_callV (d' := 0) (as := [_, _]) dX12_calm_54 lkX12_464 (cwX12_changeHomes _ _) ivX12_changeHomes ⟨_, rfl, rfl⟩ (by first | assumption | rfl) rfl rfl (Nat.le_of_ble_eq_true rfl) (by decide) pKK ?_
      refine M_X12_changeHomes hn8 (h := (fun k => H (8 + k))) hho ha (by omega) (fun I2 f2 hho2 => ?_)
      refine pE_aload_n dX12_calm_57 rfl rfl ?_
      refine pE_callV (d' := 1) (as := []) dX12_calm_58 lkX12_461 (cwX12_allEnvies _ _) ivX12_allEnvies ⟨_, rfl, rfl⟩ (by first | assumption | rfl) rfl rfl (Nat.le_of_ble_eq_true rfl) (by decide) pKK ?_
      refine M_X12_allEnvies (hH.sz (hx.p99 f2)) hr hho2 (sw_le (fun i hi => Nat.le_trans (hr.2.2.2.2 i (by omega)).1 hn20) ha (by omega)) ?_
      rw [show allE H (swH (fun k => H (8 + k)) a (a + 1 + k)) (H 1) = envE H a (a + 1 + k) from rfl]
      refine pE_istore (lc' := [_, _, _, _, _, _, some (.int _)]) dX12_calm_61 (Nat.le_of_ble_eq_true rfl) rfl rfl ?_
      refine pE_aload_n dX12_calm_63 rfl rfl ?_
      refine pE_iload dX12_calm_64 rfl ?_
      refine pE_iload dX12_calm_66 rfl ?_
      refine pE_callV (d' := 0) (as := [_, _]) dX12_calm_68 lkX12_464 (cwX12_changeHomes _ _) ivX12_changeHomes ⟨_, rfl, rfl⟩ (by first | assumption | rfl) rfl rfl (Nat.le_of_ble_eq_true rfl) (by decide) pKK ?_
      refine M_X12_changeHomes hn8 hho2 ha (by omega) (fun I3 f3 hho3 => ?_)
      refine pE_iload dX12_calm_71 rfl ?_
      refine pE_iload_n dX12_calm_73 rfl rfl ?_
      refine pE_icmp_lt (tgt := 80) dX12_calm_74 (by decide) (fun h74 => ?_) (fun h74 => ?_)
      · have g74 := nq_lt (by omega) (by omega) h74
        refine pE_iload dX12_calm_80 rfl ?_
        refine pE_istore_n (lc' := [_, _, some (.int _), _, _, _, _]) dX12_calm_82 rfl (Nat.le_of_ble_eq_true rfl) rfl rfl ?_
        refine pE_bipush (v := nI 8) dX12_calm_83 rfl ?_
        refine pE_iload dX12_calm_85 rfl ?_
        refine pE_imulN dX12_calm_87 ?_
        refine pE_iload dX12_calm_88 rfl ?_
        refine pE_iaddN dX12_calm_90 ?_
        refine pE_istore_n (lc' := [_, _, _, some (.int _), _, _, _]) dX12_calm_91 rfl (Nat.le_of_ble_eq_true rfl) rfl rfl ?_
        refine pE_iincN (c0 := 1) (lc' := [_, _, _, _, _, some (.int _), _]) dX12_calm_92 rfl rfl rfl rfl ?_
        refine pE_goto (tgt := 40) dX12_calm_95 (by decide) ?_
        refine pE_cg (ih (k + 1) _ I3 (by omega) (by omega) ((hx.p99 f2).p99 f3) (fun j hj => by rw [hho3 j hj, sw_sw])) (by
            first | (rw [clI_y (by omega)]; rfl) | (rw [clI_n (by omega)]; rfl)) rfl rfl rfl rfl
      · have g74 := nq_nlt (by omega) (by omega) h74
        refine pE_goto (tgt := 92) dX12_calm_77 (by decide) ?_
        refine pE_iincN (c0 := 1) (lc' := [_, _, _, _, _, some (.int _), _]) dX12_calm_92 rfl rfl rfl rfl ?_
        refine pE_goto (tgt := 40) dX12_calm_95 (by decide) ?_
        refine pE_cg (ih (k + 1) _ I3 (by omega) (by omega) ((hx.p99 f2).p99 f3) (fun j hj => by rw [hho3 j hj, sw_sw])) (by
            first | (rw [clI_y (by omega)]; rfl) | (rw [clI_n (by omega)]; rfl)) rfl rfl rfl rfl
set_option maxHeartbeats 4000000 in
set_option maxRecDepth 100000 in
theorem L_X12_calm {l : Launch} {X : pX} {t g : Nat} {I : pHI} {J : pHJ} {Q : pQ} {w : Nat} {H : pN} (hH : mH H I) (hr : rH H) (hw : w ≤ 2) (hq : ∀ I1, sz I I1 → Q (some (.int (calA (calN H) w))) I1 J (pR t g)) : ∀ (n : Nat) (j : Nat) (v5 : Option Value) (v6 : Option Value) (I1 : pHI), H 1 - j < n → (j ≤ H 1) → (sz I I1) → ((∀ j, j < H 1 → I1 99 j = nI (H (8 + j)))) → pE l X mX12_calm 2 pK 25 [some (.ref 67), some (.int (nI w)), some (.int (nI (clO (envE H) (H 1) (allE H (fun k => H (8 + k)) (H 1)) j).1)), some (.int (cf3 (clO (envE H) (H 1) (allE H (fun k => H (8 + k)) (H 1)) j).2)), some (.int (nI j)), v5, v6] [] pK I1 J (pR t g) Q := by
  intro n
  induction n with
  | zero => intro j v5 v6 I1 hn; exact absurd hn (Nat.not_lt_zero _)
  | succ n ih =>
    intro j v5 v6 I1 hn hj hx hho
    have hn8 := hr.2.1
    have hn20 := hr.1.2
    have hok := clO_ok (E := envE H) (allE_le H (fun k => H (8 + k)) hn8 (H 1) hn8) j hj
    have hcl := hok.1
    have hH1 := hH.sz hx
    refine pE_iload dX12_calm_25 rfl ?_
    refine pE_aload_n dX12_calm_27 rfl rfl ?_
    refine pE_getI dX12_calm_28 flX12_350 rfl (Or.inl rfl) (by first | assumption | rfl) ?_
    rw [hH1.2.1]
    refine pE_icmp_ge (tgt := 104) dX12_calm_31 (by decide) (fun h31 => ?_) (fun h31 => ?_)
    · have g31 := nq_le (by omega) (by omega) h31
      obtain rfl : j = H 1 := by omega
      replace hq := hq I1 hx
      rw [show clO (envE H) (H 1) (allE H (fun k => H (8 + k)) (H 1)) (H 1) = calN H from rfl] at *
      cases e : (calN H).2 with
      | none =>
        have e9 : calA (calN H) w = -1 := by unfold calA; rw [e]
        rw [e9] at hq
        rw [show cf3 none = (-1 : Int32) from rfl]
        refine pE_iload_n dX12_calm_104 rfl rfl ?_
        refine pE_if_ge (tgt := 112) dX12_calm_105 (by decide) (fun h105 => ?_) (fun h105 => ?_)
        · exact absurd h105 (by decide)
        · refine pE_iconst (v := -1) dX12_calm_108 rfl ?_
          refine pE_goto (tgt := 136) dX12_calm_109 (by decide) ?_
          refine pE_iret dX12_calm_136 rfl rfl ?_
          exact hq
      | some b =>
        have hb := hok.2 b e
        have e9 : calA (calN H) w = if w = 0 then nI b.1 else if w = 1 then nI b.2 else nI (calN H).1 := by unfold calA; rw [e]
        rw [e9] at hq
        rw [show cf3 (some b) = nI (8 * b.1 + b.2) from rfl]
        refine pE_iload_n dX12_calm_104 rfl rfl ?_
        refine pE_if_ge (tgt := 112) dX12_calm_105 (by decide) (fun h105 => ?_) (fun h105 => ?_)
        · refine pE_iload_n dX12_calm_112 rfl rfl ?_
          refine pE_if_ne (tgt := 123) dX12_calm_113 (by decide) (fun h113 => ?_) (fun h113 => ?_)
          · have g113 := nq_ne0 (by omega) h113
            refine pE_iload_n dX12_calm_123 rfl rfl ?_
            refine pE_iconst (v := nI 1) dX12_calm_124 rfl ?_
            refine pE_icmp_ne (tgt := 135) dX12_calm_125 (by decide) (fun h125 => ?_) (fun h125 => ?_)
            · have g125 := nq_ne (by omega) (by omega) h125
              refine pE_iload_n dX12_calm_135 rfl rfl ?_
              refine pE_iret dX12_calm_136 rfl rfl ?_
              first
              | (first | exact hq | (rw [show (8 * b.1 + b.2) / 8 = b.1 by omega]; exact hq) | (rw [show (8 * b.1 + b.2) % 8 = b.2 by omega]; exact hq))
              | (rw [if_pos (by omega)] at hq; (first | exact hq | (rw [show (8 * b.1 + b.2) / 8 = b.1 by omega]; exact hq) | (rw [show (8 * b.1 + b.2) % 8 = b.2 by omega]; exact hq)))
              | (rw [if_neg (by omega), if_pos (by omega)] at hq; (first | exact hq | (rw [show (8 * b.1 + b.2) / 8 = b.1 by omega]; exact hq) | (rw [show (8 * b.1 + b.2) % 8 = b.2 by omega]; exact hq)))
              | (rw [if_neg (by omega), if_neg (by omega)] at hq; (first | exact hq | (rw [show (8 * b.1 + b.2) / 8 = b.1 by omega]; exact hq) | (rw [show (8 * b.1 + b.2) % 8 = b.2 by omega]; exact hq)))
            · have g125 := nq_eq (by omega) (by omega) h125
              refine pE_iload_n dX12_calm_128 rfl rfl ?_
              refine pE_bipush (v := nI 8) dX12_calm_129 rfl ?_
              refine pE_iremN dX12_calm_131 (by omega) (by omega) (by omega) ?_
              refine pE_goto (tgt := 136) dX12_calm_132 (by decide) ?_
              refine pE_iret dX12_calm_136 rfl rfl ?_
              first
              | (first | exact hq | (rw [show (8 * b.1 + b.2) / 8 = b.1 by omega]; exact hq) | (rw [show (8 * b.1 + b.2) % 8 = b.2 by omega]; exact hq))
              | (rw [if_pos (by omega)] at hq; (first | exact hq | (rw [show (8 * b.1 + b.2) / 8 = b.1 by omega]; exact hq) | (rw [show (8 * b.1 + b.2) % 8 = b.2 by omega]; exact hq)))
              | (rw [if_neg (by omega), if_pos (by omega)] at hq; (first | exact hq | (rw [show (8 * b.1 + b.2) / 8 = b.1 by omega]; exact hq) | (rw [show (8 * b.1 + b.2) % 8 = b.2 by omega]; exact hq)))
              | (rw [if_neg (by omega), if_neg (by omega)] at hq; (first | exact hq | (rw [show (8 * b.1 + b.2) / 8 = b.1 by omega]; exact hq) | (rw [show (8 * b.1 + b.2) % 8 = b.2 by omega]; exact hq)))
          · have g113 := nq_eq0 (by omega) h113
            refine pE_iload_n dX12_calm_116 rfl rfl ?_
            refine pE_bipush (v := nI 8) dX12_calm_117 rfl ?_
            refine pE_idivN dX12_calm_119 (by omega) (by omega) (by omega) ?_
            refine pE_goto (tgt := 136) dX12_calm_120 (by decide) ?_
            refine pE_iret dX12_calm_136 rfl rfl ?_
            first
            | (first | exact hq | (rw [show (8 * b.1 + b.2) / 8 = b.1 by omega]; exact hq) | (rw [show (8 * b.1 + b.2) % 8 = b.2 by omega]; exact hq))
            | (rw [if_pos (by omega)] at hq; (first | exact hq | (rw [show (8 * b.1 + b.2) / 8 = b.1 by omega]; exact hq) | (rw [show (8 * b.1 + b.2) % 8 = b.2 by omega]; exact hq)))
            | (rw [if_neg (by omega), if_pos (by omega)] at hq; (first | exact hq | (rw [show (8 * b.1 + b.2) / 8 = b.1 by omega]; exact hq) | (rw [show (8 * b.1 + b.2) % 8 = b.2 by omega]; exact hq)))
            | (rw [if_neg (by omega), if_neg (by omega)] at hq; (first | exact hq | (rw [show (8 * b.1 + b.2) / 8 = b.1 by omega]; exact hq) | (rw [show (8 * b.1 + b.2) % 8 = b.2 by omega]; exact hq)))
        · exact absurd h105 (not_not_intro (nI_pos' (by omega)))
    · have g31 := nq_nle (by omega) (by omega) h31
      refine pE_iload dX12_calm_34 rfl ?_
      refine pE_iconst (v := nI 1) dX12_calm_36 rfl ?_
      refine pE_iaddN dX12_calm_37 ?_
      refine pE_istore (lc' := [_, _, _, _, _, some (.int _), _]) dX12_calm_38 (Nat.le_of_ble_eq_true rfl) rfl rfl ?_
      refine L_X12_calmIn (I := I) hH hr hw (by omega) hok (fun v6 I2 hx2 hho2 => ?_) (H 1 + 1) 0 _ I1 (by omega) (by omega) hx hho
      refine pE_iincN (c0 := 1) (lc' := [_, _, _, _, some (.int _), _, _]) dX12_calm_98 rfl rfl rfl rfl ?_
      refine pE_goto (tgt := 25) dX12_calm_101 (by decide) ?_
      exact ih (j + 1) _ _ I2 (by omega) (by omega) hx2 hho2
set_option maxHeartbeats 4000000 in
set_option maxRecDepth 100000 in
theorem M_X12_calm {l : Launch} {X : pX} {t g : Nat} {I : pHI} {J : pHJ} {Q : pQ} {x : Int32} {H : pN} (hH : mH H I) (hr : rH H) (h1 : ∀ w, w ≤ 2 → x = nI w → ∀ I1, sz I I1 → Q (some (.int (calA (calN H) w))) I1 J (pR t g)) (h0 : (∀ w, w ≤ 2 → x ≠ nI w) → Q (some (.int (-1))) I J (pR t g)) : pM l X yX12_calm mX12_calm 3 [.ref 67, .int x] pK pK I J (pR t g) Q := by
  have hn8 := hr.2.1
  have hn20 := hr.1.2
  refine pM_of rfl (fun h => by cases h) rfl pKM (Nat.le_of_ble_eq_true rfl) ?_
  refine pE_iload_n dX12_calm_0 rfl rfl ?_
  refine pE_iconst (v := nI 0) dX12_calm_1 rfl ?_
  refine pE_iconst (v := nI 2) dX12_calm_2 rfl ?_
  refine pE_callS (d' := 0) (as := [_, _, _]) dX12_calm_3 lkX12_368 (cwX12_isIn _ _) svX12_isIn rfl rfl (Nat.le_of_ble_eq_true rfl) (by decide) pKK ?_
  refine M_X12_isIn  (fun k1 k2 => ?_) (fun k => ?_)
  · obtain ⟨w, rfl, -, hw⟩ := in_rng (by omega) (by omega) k1 k2
    refine pE_if_ne_t (tgt := 11) dX12_calm_6 (by decide) nI_1n0 ?_
    refine pE_aload_n dX12_calm_11 rfl rfl ?_
    refine pE_callV (d' := 0) (as := []) dX12_calm_12 lkX12_458 (cwX12_layHomes _ _) ivX12_layHomes ⟨_, rfl, rfl⟩ (by first | assumption | rfl) rfl rfl (Nat.le_of_ble_eq_true rfl) (by decide) pKK ?_
    refine M_X12_layHomes hH hr (fun I1 hz hho => ?_)
    refine pE_aload_n dX12_calm_15 rfl rfl ?_
    refine pE_callV (d' := 1) (as := []) dX12_calm_16 lkX12_461 (cwX12_allEnvies _ _) ivX12_allEnvies ⟨_, rfl, rfl⟩ (by first | assumption | rfl) rfl rfl (Nat.le_of_ble_eq_true rfl) (by decide) pKK ?_
    refine M_X12_allEnvies (h := (fun k => H (8 + k))) (hH.sz hz) hr hho (fun i hi => Nat.le_trans (hr.2.2.2.2 i (by omega)).1 hn20) ?_
    refine pE_istore_n (lc' := [_, _, some (.int _), _, _, _, _]) dX12_calm_19 rfl (Nat.le_of_ble_eq_true rfl) rfl rfl ?_
    refine pE_iconst (v := -1) dX12_calm_20 rfl ?_
    refine pE_istore_n (lc' := [_, _, _, some (.int _), _, _, _]) dX12_calm_21 rfl (Nat.le_of_ble_eq_true rfl) rfl rfl ?_
    refine pE_iconst (v := nI 0) dX12_calm_22 rfl ?_
    refine pE_istore (lc' := [_, _, _, _, some (.int _), _, _]) dX12_calm_23 (Nat.le_of_ble_eq_true rfl) rfl rfl ?_
    exact (L_X12_calm (hH.sz hz) hr hw (fun I2 h => h1 w hw rfl I2 (hz.tr h)) (H 1 + 1) 0 _ _ I1 (by omega) (by omega) sz.rf hho).deep (by decide)
  · have hno := out_rng (by omega) (by omega) k
    refine pE_if_ne_f (tgt := 11) dX12_calm_6 (by decide) nI_0 ?_
    refine pE_iconst (v := -1) dX12_calm_9 rfl ?_
    refine pE_iret dX12_calm_10 rfl rfl ?_
    exact h0 (fun w hw => hno w (Nat.zero_le _) hw)
