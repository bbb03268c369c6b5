theorem ins_fall {f h : Nat → Nat} {p v n : Nat} (hp : p ≤ n) (hr : ∀ a b, a < b → b < n → f (h b) ≤ f (h a)) (h1 : ∀ a, a < p → f v ≤ f (h a)) (h2 : ∀ a, p ≤ a → a < n → f (h a) ≤ f v) : ∀ a b, a < b → b < n + 1 → f (insH h p v b) ≤ f (insH h p v a) := fun a b hab hb => by
  unfold insH
  by_cases c1 : a < p
  · rw [if_pos c1]
    by_cases c2 : b < p
    · rw [if_pos c2]; exact hr a b hab (by omega)
    · rw [if_neg c2]
      by_cases c3 : b = p
      · rw [if_pos c3]; exact h1 a c1
      · rw [if_neg c3]
        exact Nat.le_trans (h2 (b - 1) (by omega) (by omega)) (h1 a c1)
  · rw [if_neg c1, if_neg (show ¬ b < p by omega), if_neg (show ¬ b = p by omega)]
    by_cases c3 : a = p
    · rw [if_pos c3]; exact h2 (b - 1) (by omega) (by omega)
    · rw [if_neg c3]; exact hr (a - 1) (b - 1) (by omega) (by omega)
set_option maxHeartbeats 400000 in
set_option maxRecDepth 100000 in
theorem L_X4_sortT3 {l : Launch} {X : pX} {t g : Nat} {I : pHI} {J : pHJ} {Q : pQ} {H : pN} {h : Nat → Nat} {i : Nat} {I1 : pHI} {j : Nat} (ht : isH t) (hH : cH t H I) (hr : rH H) (hi : i < H 1) (hrs : ∀ a b, a < b → b < i → H (32 + h b) ≤ H (32 + h a)) (hb : ∀ p, p < i → h p < H 1) (hq : ∀ I2 h2, sT I I2 → (∀ c k, c ≠ 65 → I2 c k = I c k) → (∀ p, p < i + 1 → I2 65 p = nI (h2 p)) → (∀ a b, a < b → b < i + 1 → H (32 + h2 b) ≤ H (32 + h2 a)) → (∀ w, cnE h2 w (i + 1) = cnE h w i + if i = w then 1 else 0) → (∀ p, p < i + 1 → h2 p < H 1) → ∀ j2, pE l X mX4_sortTenants 0 pK 2 [some (.ref 62), some (.ref t), some (.int (nI (i + 1))), j2] [] pK I2 J (pR t g) Q) (hj : j ≤ i) (hx : sT I I1) (hx5 : ∀ c k, c ≠ 65 → I1 c k = I c k) (h1 : ∀ p, p < j → I1 65 p = nI (h p)) (h2 : ∀ p, j < p → p ≤ i → I1 65 p = nI (h (p - 1))) (h3 : ∀ p, j ≤ p → p < i → H (32 + h p) ≤ H (32 + i)) (h4 : ∀ p, p < j → H (32 + i) ≤ H (32 + h p)) : pE l X mX4_sortTenants 0 pK 58 [some (.ref 62), some (.ref t), some (.int (nI i)), some (.int (nI j))] [] pK I1 J (pR t g) Q := by
  obtain ⟨fHFht0, fHFht1, fHFht2, fHFht3, fHFht4, fHFht5, fHFht6, fHFht7, fHFht8, fHFht9, fHFht10, fHFht11, fHFht12, fHFht13, fHFht14, fHFht15, fHFht16, fHFht17, fHFht18, fHFht19, fHFht20, fHFht21, fHFht22, fHFht23, fHFht24, fHFht25, fHFht26⟩ := HF t g ht
  have hn8 := hr.2.1
  have hH1 := hH.sT ht hx
  refine pE_aload_n dX4_sortTenants_58 rfl rfl ?_
  refine pE_getR dX4_sortTenants_59 flX4_19 rfl (by first | assumption | rfl) (by first | assumption | rfl) ?_
  refine pE_iload_n dX4_sortTenants_62 rfl rfl ?_
  refine pE_iload_n dX4_sortTenants_63 rfl rfl ?_
  refine pE_iastoreN dX4_sortTenants_64 (by first | assumption | rfl) (by first | assumption | omega) (by omega) ?_
  refine pE_iincN (c0 := 1) (lc' := [_, _, some (.int _), _]) dX4_sortTenants_65 rfl rfl rfl rfl ?_
  refine pE_goto (tgt := 2) dX4_sortTenants_68 (by decide) ?_
  refine hq _ (insH h j i) (hx.pu (by omega)) (fun c k hc => by rw [pu_ne _ _ _ hc]; exact hx5 c k hc) (fun p hp => ?_) (ins_fall (f := fun x => H (32 + x)) hj hrs h4 h3) (fun w => ins_cnt hj) (fun p hp => ?_) _
  · rw [pu_at]
    unfold insH
    by_cases c1 : p = j
    · rw [if_pos ⟨rfl, c1⟩, if_neg (by omega), if_pos c1]
    · rw [if_neg (fun q => c1 q.2)]
      by_cases c2 : p < j
      · rw [if_pos c2]; exact h1 p c2
      · rw [if_neg c2, if_neg c1]; exact h2 p (by omega) (by omega)
  · unfold insH
    by_cases c1 : p < j
    · rw [if_pos c1]; exact hb p (by omega)
    · rw [if_neg c1]
      by_cases c2 : p = j
      · rw [if_pos c2]; exact hi
      · rw [if_neg c2]; exact hb (p - 1) (by omega)
set_option maxHeartbeats 400000 in
set_option maxRecDepth 100000 in
theorem L_X4_sortT2 {l : Launch} {X : pX} {t g : Nat} {I : pHI} {J : pHJ} {Q : pQ} {H : pN} {h : Nat → Nat} {i : Nat} (ht : isH t) (hH : cH t H I) (hr : rH H) (hi : i < H 1) (hrs : ∀ a b, a < b → b < i → H (32 + h b) ≤ H (32 + h a)) (hb : ∀ p, p < i → h p < H 1) (hq : ∀ I2 h2, sT I I2 → (∀ c k, c ≠ 65 → I2 c k = I c k) → (∀ p, p < i + 1 → I2 65 p = nI (h2 p)) → (∀ a b, a < b → b < i + 1 → H (32 + h2 b) ≤ H (32 + h2 a)) → (∀ w, cnE h2 w (i + 1) = cnE h w i + if i = w then 1 else 0) → (∀ p, p < i + 1 → h2 p < H 1) → ∀ j2, pE l X mX4_sortTenants 0 pK 2 [some (.ref 62), some (.ref t), some (.int (nI (i + 1))), j2] [] pK I2 J (pR t g) Q) : ∀ (fu : Nat) (j : Nat) (I1 : pHI), j < fu → (j ≤ i) → (sT I I1) → (∀ c k, c ≠ 65 → I1 c k = I c k) → (∀ p, p < j → I1 65 p = nI (h p)) → (∀ p, j < p → p ≤ i → I1 65 p = nI (h (p - 1))) → (∀ p, j ≤ p → p < i → H (32 + h p) ≤ H (32 + i)) → pE l X mX4_sortTenants 0 pK 12 [some (.ref 62), some (.ref t), some (.int (nI i)), some (.int (nI j))] [] pK I1 J (pR t g) Q := by
  obtain ⟨fHFht0, fHFht1, fHFht2, fHFht3, fHFht4, fHFht5, fHFht6, fHFht7, fHFht8, fHFht9, fHFht10, fHFht11, fHFht12, fHFht13, fHFht14, fHFht15, fHFht16, fHFht17, fHFht18, fHFht19, fHFht20, fHFht21, fHFht22, fHFht23, fHFht24, fHFht25, fHFht26⟩ := HF t g ht
  intro fu
  induction fu with
  | zero => intro j I1 hn; exact absurd hn (Nat.not_lt_zero _)
  | succ fu ih =>
    intro j I1 hn hj hx hx5 h1 h2 h3
    have hn8 := hr.2.1
    have hH1 := hH.sT ht hx
    refine pE_iload_n dX4_sortTenants_12 rfl rfl ?_
    refine pE_if_le (tgt := 58) dX4_sortTenants_13 (by decide) (fun h13 => ?_) (fun h13 => ?_)
    · have g13 := nq_le0 (by omega) h13
      refine L_X4_sortT3 ht hH hr hi hrs hb hq hj hx hx5 h1 h2 h3 (fun p hp => ?_)
      rcases Nat.lt_or_ge p (j - 1) with c | c
      · have := hrs p (j - 1) c (by omega)
        omega
      · obtain rfl : p = j - 1 := by omega
        omega
    · have g13 := nq_nle0 (by omega) h13
      have b1 := hb (j - 1) (by omega)
      have b2 := hr.2.2.2.2 (h (j - 1)) (by omega)
      have b3 := hr.2.2.2.2 i (by omega)
      refine pE_aload_n dX4_sortTenants_16 rfl rfl ?_
      refine pE_getR dX4_sortTenants_17 flX4_55 rfl (by first | assumption | rfl) (by first | assumption | rfl) ?_
      refine pE_aload_n dX4_sortTenants_20 rfl rfl ?_
      refine pE_getR dX4_sortTenants_21 flX4_19 rfl (by first | assumption | rfl) (by first | assumption | rfl) ?_
      refine pE_iload_n dX4_sortTenants_24 rfl rfl ?_
      refine pE_iconst (v := nI 1) dX4_sortTenants_25 rfl ?_
      refine pE_isubN dX4_sortTenants_26 (by omega) ?_
      refine pE_ialoadN dX4_sortTenants_27 (by first | assumption | rfl) (by first | assumption | omega) (by omega) ?_
      rw [h1 (j - 1) (by omega)]
      refine pE_ialoadN dX4_sortTenants_28 (by first | assumption | rfl) (by first | assumption | omega) (by omega) ?_
      rw [(hH1.2.2.2.2.2 (h (j - 1)) (by omega)).2.2.2.1]
      refine pE_aload_n dX4_sortTenants_29 rfl rfl ?_
      refine pE_getR dX4_sortTenants_30 flX4_55 rfl (by first | assumption | rfl) (by first | assumption | rfl) ?_
      refine pE_iload_n dX4_sortTenants_33 rfl rfl ?_
      refine pE_ialoadN dX4_sortTenants_34 (by first | assumption | rfl) (by first | assumption | omega) (by omega) ?_
      rw [(hH1.2.2.2.2.2 i (by omega)).2.2.2.1]
      refine pE_icmp_ge (tgt := 58) dX4_sortTenants_35 (by decide) (fun h35 => ?_) (fun h35 => ?_)
      · have g35 := nq_le (by omega) (by omega) h35
        refine L_X4_sortT3 ht hH hr hi hrs hb hq hj hx hx5 h1 h2 h3 (fun p hp => ?_)
        rcases Nat.lt_or_ge p (j - 1) with c | c
        · have := hrs p (j - 1) c (by omega)
          omega
        · obtain rfl : p = j - 1 := by omega
          omega
      · have g35 := nq_nle (by omega) (by omega) h35
        refine pE_aload_n dX4_sortTenants_38 rfl rfl ?_
        refine pE_getR dX4_sortTenants_39 flX4_19 rfl (by first | assumption | rfl) (by first | assumption | rfl) ?_
        refine pE_iload_n dX4_sortTenants_42 rfl rfl ?_
        refine pE_aload_n dX4_sortTenants_43 rfl rfl ?_
        refine pE_getR dX4_sortTenants_44 flX4_19 rfl (by first | assumption | rfl) (by first | assumption | rfl) ?_
        refine pE_iload_n dX4_sortTenants_47 rfl rfl ?_
        refine pE_iconst (v := nI 1) dX4_sortTenants_48 rfl ?_
        refine pE_isubN dX4_sortTenants_49 (by omega) ?_
        refine pE_ialoadN dX4_sortTenants_50 (by first | assumption | rfl) (by first | assumption | omega) (by omega) ?_
        rw [h1 (j - 1) (by omega)]
        refine pE_iastoreN dX4_sortTenants_51 (by first | assumption | rfl) (by first | assumption | omega) (by omega) ?_
        refine pE_iinc (c0 := -1) (lc' := [_, _, _, some (.int _)]) dX4_sortTenants_52 rfl rfl rfl rfl ?_
        refine pE_goto (tgt := 12) dX4_sortTenants_55 (by decide) ?_
        rw [show nI j = nI (j - 1 + 1) from congrArg nI (by omega), nI_dec]
        refine ih (j - 1) _ (by omega) (by omega) (hx.pu (by omega)) (fun c k hc => by rw [pu_ne _ _ _ hc]; exact hx5 c k hc) (fun p hp => ?_) (fun p h6 h7 => ?_) (fun p h6 h7 => ?_)
        · rw [pu_at, if_neg (by omega)]; exact h1 p (by omega)
        · rw [pu_at]
          by_cases c : p = j
          · rw [if_pos ⟨rfl, c⟩, c]
          · rw [if_neg (fun q => c q.2)]; exact h2 p (by omega) h7
        · by_cases c : p = j - 1
          · rw [c]; omega
          · exact h3 p (by omega) h7
set_option maxHeartbeats 400000 in
set_option maxRecDepth 100000 in
theorem L_X4_sortT1 {l : Launch} {X : pX} {t g : Nat} {I : pHI} {J : pHJ} {Q : pQ} {H : pN} (ht : isH t) (hH : cH t H I) (hr : rH H) (hq : ∀ I2 o, sT I I2 → (∀ c k, c ≠ 65 → I2 c k = I c k) → (∀ p, p < H 1 → I2 65 p = nI (o p)) → (∀ a b, a < b → b < H 1 → H (32 + o b) ≤ H (32 + o a)) → (hL o (H 1)).Perm (List.range (H 1)) → (∀ p, p < H 1 → o p < H 1) → Q none I2 J (pR t g)) : ∀ (fu : Nat) (i : Nat) (h : Nat → Nat) (v3 : Option Value) (I1 : pHI), H 1 - i < fu → (i ≤ H 1) → (sT I I1) → (∀ c k, c ≠ 65 → I1 c k = I c k) → (∀ p, p < i → I1 65 p = nI (h p)) → (∀ a b, a < b → b < i → H (32 + h b) ≤ H (32 + h a)) → (∀ w, cnE h w i = cnE (fun x => x) w i) → (∀ p, p < i → h p < H 1) → pE l X mX4_sortTenants 0 pK 2 [some (.ref 62), some (.ref t), some (.int (nI i)), v3] [] pK I1 J (pR t g) Q := by
  obtain ⟨fHFht0, fHFht1, fHFht2, fHFht3, fHFht4, fHFht5, fHFht6, fHFht7, fHFht8, fHFht9, fHFht10, fHFht11, fHFht12, fHFht13, fHFht14, fHFht15, fHFht16, fHFht17, fHFht18, fHFht19, fHFht20, fHFht21, fHFht22, fHFht23, fHFht24, fHFht25, fHFht26⟩ := HF t g ht
  intro fu
  induction fu with
  | zero => intro i h v3 I1 hn; exact absurd hn (Nat.not_lt_zero _)
  | succ fu ih =>
    intro i h v3 I1 hn hi hx hx5 h1 hrs hcn hb
    have hn8 := hr.2.1
    have hH1 := hH.sT ht hx
    refine pE_iload_n dX4_sortTenants_2 rfl rfl ?_
    refine pE_aload_n dX4_sortTenants_3 rfl rfl ?_
    refine pE_getI dX4_sortTenants_4 flX4_36 rfl (Or.inl rfl) (by first | assumption | rfl) ?_
    rw [hH1.2.2.1]
    refine pE_icmp_ge (tgt := 71) dX4_sortTenants_7 (by decide) (fun h7 => ?_) (fun h7 => ?_)
    · have g7 := nq_le (by omega) (by omega) h7
      refine pE_vret dX4_sortTenants_71 rfl rfl ?_
      obtain rfl : i = H 1 := by omega
      exact hq I1 h hx hx5 h1 hrs ((hL_perm.mpr hcn).trans (by unfold hL; rw [List.map_id'])) hb
    · have g7 := nq_nle (by omega) (by omega) h7
      refine pE_iload_n dX4_sortTenants_10 rfl rfl ?_
      refine pE_istore_n (lc' := [_, _, _, some (.int _)]) dX4_sortTenants_11 rfl (Nat.le_of_ble_eq_true rfl) rfl rfl ?_
      refine L_X4_sortT2 ht hH1 hr (h := h) (i := i) (by omega) hrs hb (fun I2 h2 k1 k0 k2 k4 k5 k6 j2 => ?_) (i + 1) i I1 (by omega) (Nat.le_refl _) sT.rf (fun c k hc => rfl) h1 (fun p h6 h7 => absurd h6 (by omega)) (fun p h6 h7 => absurd h6 (by omega))
      exact ih (i + 1) h2 _ I2 (by omega) (by omega) (hx.tr k1) (fun c k hc => (k0 c k hc).trans (hx5 c k hc)) k2 k4 (fun w => by rw [k5, cnE_succ, hcn]) k6
set_option maxHeartbeats 400000 in
set_option maxRecDepth 100000 in
theorem M_X4_sortTenants {l : Launch} {X : pX} {t g : Nat} {I : pHI} {J : pHJ} {Q : pQ} {H : pN} (ht : isH t) (hH : cH t H I) (hr : rH H) (hq : ∀ I2 o, sT I I2 → (∀ c k, c ≠ 65 → I2 c k = I c k) → (∀ p, p < H 1 → I2 65 p = nI (o p)) → (∀ a b, a < b → b < H 1 → H (32 + o b) ≤ H (32 + o a)) → (hL o (H 1)).Perm (List.range (H 1)) → (∀ p, p < H 1 → o p < H 1) → Q none I2 J (pR t g)) : pM l X yX4_sortTenants mX4_sortTenants 0 [.ref 62, .ref t] pK pK I J (pR t g) Q := by
  refine pM_of rfl (fun h => by cases h) rfl pKM (Nat.le_of_ble_eq_true rfl) ?_
  refine pE_iconst (v := nI 0) dX4_sortTenants_0 rfl ?_
  refine pE_istore_n (lc' := [_, _, some (.int _), _]) dX4_sortTenants_1 rfl (Nat.le_of_ble_eq_true rfl) rfl rfl ?_
  exact L_X4_sortT1 ht hH hr hq (H 1 + 1) 0 (fun x => x) _ I (by omega) (by omega) sT.rf (fun c k hc => rfl) (fun p hp => absurd hp (by omega)) (fun a b e f => absurd f (by omega)) (fun w => rfl) (fun p hp => absurd hp (by omega))
