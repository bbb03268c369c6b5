def sT (I I1 : pHI) : Prop := ∀ c k, ¬ (63 ≤ c ∧ c ≤ 66) → I1 c k = I c k
theorem sT.rf {I : pHI} : sT I I := fun _ _ _ => rfl
theorem sT.tr {I I1 I2 : pHI} (h1 : sT I I1) (h2 : sT I1 I2) : sT I I2 := fun c k a => (h2 c k a).trans (h1 c k a)
theorem sT.pu {I I1 : pHI} {c k : Nat} {x : Int32} (h : sT I I1) (hc : 63 ≤ c ∧ c ≤ 66) : sT I (pu I1 c k x) := fun c2 k2 a => by rw [pu_ne _ _ _ (show c2 ≠ c from fun e => by subst e; exact a hc)]; exact h c2 k2 a
theorem ins_rise {h : Nat → Nat} {p v n : Nat} (hp : p ≤ n) (hr : ∀ a b, a < b → b < n → h a ≤ h b) (h1 : ∀ a, a < p → h a ≤ v) (h2 : ∀ a, p ≤ a → a < n → v ≤ h a) : ∀ a b, a < b → b < n + 1 → insH h p v a ≤ insH h p v b := fun a b hab hb => by
  unfold insH
  by_cases c1 : a < p
  · rw [if_pos c1]
    by_cases c2 : b < p
    · rw [if_pos c2]; exact hr a b hab (by omega)
    · rw [if_neg c2]
      by_cases c3 : b = p
      · rw [if_pos c3]; exact h1 a c1
      · rw [if_neg c3]
        exact Nat.le_trans (h1 a c1) (h2 (b - 1) (by omega) (by omega))
  · rw [if_neg c1, if_neg (show ¬ b < p by omega), if_neg (show ¬ b = p by omega)]
    by_cases c3 : a = p
    · rw [if_pos c3]; exact h2 (b - 1) (by omega) (by omega)
    · rw [if_neg c3]; exact hr (a - 1) (b - 1) (by omega) (by omega)
theorem cH.sT {H : pN} {t : Nat} {I I1 : pHI} (ht : isH t) (h : cH t H I) (hx : sT I I1) : cH t H I1 := by
  have ho : t = 5 ∨ t = 19 := ht
  have n : ∀ d k, d ≤ 11 → I1 (t + d) k = I (t + d) k := fun d k hd => hx _ _ (by omega)
  have n0 : ∀ k, I1 t k = I t k := fun k => hx _ _ (by omega)
  obtain ⟨a, b, c, d, e, f⟩ := h
  exact ⟨by rw [n0]; exact a, by rw [n0]; exact b, by rw [n0]; exact c, by rw [n0]; exact d, by rw [n0]; exact e, fun j hj => by
    rw [n 1 _ (by omega), n 2 _ (by omega), n 3 _ (by omega), n 4 _ (by omega), n 5 _ (by omega)]
    exact f j hj⟩
set_option maxHeartbeats 400000 in
set_option maxRecDepth 100000 in
theorem L_X4_sortS3 {l : Launch} {X : pX} {t g : Nat} {I : pHI} {J : pHJ} {Q : pQ} {H : pN} {h : Nat → Nat} {i : Nat} {I1 : pHI} {j : Nat} (ht : isH t) (hH : cH t H I) (hr : rH H) (hi : i < H 1) (hrs : ∀ a b, a < b → b < i → h a ≤ h b) (hb : ∀ p, p < i → h p ≤ 20) (hq : ∀ I2 h2, sT I I2 → (∀ p, p < i + 1 → I2 63 p = nI (h2 p)) → (∀ p, p < i + 1 → I2 64 p = nI 0) → (∀ a b, a < b → b < i + 1 → h2 a ≤ h2 b) → (∀ w, cnE h2 w (i + 1) = cnE h w i + if H (8 + i) = w then 1 else 0) → (∀ p, p < i + 1 → h2 p ≤ 20) → ∀ j2, pE l X mX4_sortStoreys 0 pK 2 [some (.ref 62), some (.ref t), some (.int (nI (i + 1))), j2] [] pK I2 J (pR t g) Q) (hj : j ≤ i) (hx : sT I I1) (h1 : ∀ p, p < j → I1 63 p = nI (h p)) (h2 : ∀ p, j < p → p ≤ i → I1 63 p = nI (h (p - 1))) (h3 : ∀ p, j ≤ p → p < i → H (8 + i) ≤ h p) (h4 : ∀ p, p < j → h p ≤ H (8 + i)) (h5 : ∀ p, p < i → I1 64 p = nI 0) : pE l X mX4_sortStoreys 0 pK 53 [some (.ref 62), some (.ref t), some (.int (nI i)), some (.int (nI j))] [] pK I1 J (pR t g) Q := by
  obtain ⟨fHFht0, fHFht1, fHFht2, fHFht3, fHFht4, fHFht5, fHFht6, fHFht7, fHFht8, fHFht9, fHFht10, fHFht11, fHFht12, fHFht13, fHFht14, fHFht15, fHFht16, fHFht17, fHFht18, fHFht19, fHFht20, fHFht21, fHFht22, fHFht23, fHFht24, fHFht25, fHFht26⟩ := HF t g ht
  have hn8 := hr.2.1
  have hH1 := hH.sT ht hx
  have hv := hr.2.2.2.2 i (by omega)
  have hn20 := hr.1.2
  refine pE_aload_n dX4_sortStoreys_53 rfl rfl ?_
  refine pE_getR dX4_sortStoreys_54 flX4_9 rfl (by first | assumption | rfl) (by first | assumption | rfl) ?_
  refine pE_iload_n dX4_sortStoreys_57 rfl rfl ?_
  refine pE_aload_n dX4_sortStoreys_58 rfl rfl ?_
  refine pE_getR dX4_sortStoreys_59 flX4_52 rfl (by first | assumption | rfl) (by first | assumption | rfl) ?_
  refine pE_iload_n dX4_sortStoreys_62 rfl rfl ?_
  refine pE_ialoadN dX4_sortStoreys_63 (by first | assumption | rfl) (by first | assumption | omega) (by omega) ?_
  rw [(hH1.2.2.2.2.2 i (by omega)).1]
  refine pE_iastoreN dX4_sortStoreys_64 (by first | assumption | rfl) (by first | assumption | omega) (by omega) ?_
  refine pE_aload_n dX4_sortStoreys_65 rfl rfl ?_
  refine pE_getR dX4_sortStoreys_66 flX4_15 rfl (by first | assumption | rfl) (by first | assumption | rfl) ?_
  refine pE_iload_n dX4_sortStoreys_69 rfl rfl ?_
  refine pE_iconst (v := nI 0) dX4_sortStoreys_70 rfl ?_
  refine pE_zastoreN dX4_sortStoreys_71 (by first | assumption | rfl) (by first | exact Or.inl nI_0 | exact Or.inr nI_1' | assumption) (by first | assumption | omega) (by omega) ?_
  refine pE_iincN (c0 := 1) (lc' := [_, _, some (.int _), _]) dX4_sortStoreys_72 rfl rfl rfl rfl ?_
  refine pE_goto (tgt := 2) dX4_sortStoreys_75 (by decide) ?_
  refine hq _ (insH h j (H (8 + i))) ((hx.pu (by omega)).pu (by omega)) (fun p hp => ?_) (fun p hp => ?_) (ins_rise hj hrs h4 h3) (fun w => ins_cnt hj) (fun p hp => ?_) _
  · rw [pu_ne _ _ _ (by decide), pu_at]
    unfold insH
    by_cases c1 : p = j
    · rw [if_pos ⟨rfl, c1⟩, if_neg (by omega), if_pos c1]
    · rw [if_neg (fun q => c1 q.2)]
      by_cases c2 : p < j
      · rw [if_pos c2]; exact h1 p c2
      · rw [if_neg c2, if_neg c1]; exact h2 p (by omega) (by omega)
  · rw [pu_at]
    by_cases c1 : p = i
    · rw [if_pos ⟨rfl, c1⟩]
    · rw [if_neg (fun q => c1 q.2), pu_ne _ _ _ (by decide)]
      exact h5 p (by omega)
  · unfold insH
    by_cases c1 : p < j
    · rw [if_pos c1]; exact hb p (by omega)
    · rw [if_neg c1]
      by_cases c2 : p = j
      · rw [if_pos c2]; omega
      · rw [if_neg c2]; exact hb (p - 1) (by omega)
set_option maxHeartbeats 400000 in
set_option maxRecDepth 100000 in
theorem L_X4_sortS2 {l : Launch} {X : pX} {t g : Nat} {I : pHI} {J : pHJ} {Q : pQ} {H : pN} {h : Nat → Nat} {i : Nat} (ht : isH t) (hH : cH t H I) (hr : rH H) (hi : i < H 1) (hrs : ∀ a b, a < b → b < i → h a ≤ h b) (hb : ∀ p, p < i → h p ≤ 20) (hq : ∀ I2 h2, sT I I2 → (∀ p, p < i + 1 → I2 63 p = nI (h2 p)) → (∀ p, p < i + 1 → I2 64 p = nI 0) → (∀ a b, a < b → b < i + 1 → h2 a ≤ h2 b) → (∀ w, cnE h2 w (i + 1) = cnE h w i + if H (8 + i) = w then 1 else 0) → (∀ p, p < i + 1 → h2 p ≤ 20) → ∀ j2, pE l X mX4_sortStoreys 0 pK 2 [some (.ref 62), some (.ref t), some (.int (nI (i + 1))), j2] [] pK I2 J (pR t g) Q) : ∀ (fu : Nat) (j : Nat) (I1 : pHI), j < fu → (j ≤ i) → (sT I I1) → (∀ p, p < j → I1 63 p = nI (h p)) → (∀ p, j < p → p ≤ i → I1 63 p = nI (h (p - 1))) → (∀ p, j ≤ p → p < i → H (8 + i) ≤ h p) → (∀ p, p < i → I1 64 p = nI 0) → pE l X mX4_sortStoreys 0 pK 12 [some (.ref 62), some (.ref t), some (.int (nI i)), some (.int (nI j))] [] pK I1 J (pR t g) Q := by
  obtain ⟨fHFht0, fHFht1, fHFht2, fHFht3, fHFht4, fHFht5, fHFht6, fHFht7, fHFht8, fHFht9, fHFht10, fHFht11, fHFht12, fHFht13, fHFht14, fHFht15, fHFht16, fHFht17, fHFht18, fHFht19, fHFht20, fHFht21, fHFht22, fHFht23, fHFht24, fHFht25, fHFht26⟩ := HF t g ht
  intro fu
  induction fu with
  | zero => intro j I1 hn; exact absurd hn (Nat.not_lt_zero _)
  | succ fu ih =>
    intro j I1 hn hj hx h1 h2 h3 h5
    have hn8 := hr.2.1
    have hH1 := hH.sT ht hx
    have hv := hr.2.2.2.2 i (by omega)
    have hn20 := hr.1.2
    refine pE_iload_n dX4_sortStoreys_12 rfl rfl ?_
    refine pE_if_le (tgt := 53) dX4_sortStoreys_13 (by decide) (fun h13 => ?_) (fun h13 => ?_)
    · have g13 := nq_le0 (by omega) h13
      refine L_X4_sortS3 ht hH hr hi hrs hb hq hj hx h1 h2 h3 (fun p hp => ?_) h5
      rcases Nat.lt_or_ge p (j - 1) with c | c
      · have := hrs p (j - 1) c (by omega)
        omega
      · obtain rfl : p = j - 1 := by omega
        omega
    · have g13 := nq_nle0 (by omega) h13
      have b1 := hb (j - 1) (by omega)
      refine pE_aload_n dX4_sortStoreys_16 rfl rfl ?_
      refine pE_getR dX4_sortStoreys_17 flX4_9 rfl (by first | assumption | rfl) (by first | assumption | rfl) ?_
      refine pE_iload_n dX4_sortStoreys_20 rfl rfl ?_
      refine pE_iconst (v := nI 1) dX4_sortStoreys_21 rfl ?_
      refine pE_isubN dX4_sortStoreys_22 (by omega) ?_
      refine pE_ialoadN dX4_sortStoreys_23 (by first | assumption | rfl) (by first | assumption | omega) (by omega) ?_
      rw [h1 (j - 1) (by omega)]
      refine pE_aload_n dX4_sortStoreys_24 rfl rfl ?_
      refine pE_getR dX4_sortStoreys_25 flX4_52 rfl (by first | assumption | rfl) (by first | assumption | rfl) ?_
      refine pE_iload_n dX4_sortStoreys_28 rfl rfl ?_
      refine pE_ialoadN dX4_sortStoreys_29 (by first | assumption | rfl) (by first | assumption | omega) (by omega) ?_
      rw [(hH1.2.2.2.2.2 i (by omega)).1]
      refine pE_icmp_le (tgt := 53) dX4_sortStoreys_30 (by decide) (fun h30 => ?_) (fun h30 => ?_)
      · have g30 := nq_le (by omega) (by omega) h30
        refine L_X4_sortS3 ht hH hr hi hrs hb hq hj hx h1 h2 h3 (fun p hp => ?_) h5
        rcases Nat.lt_or_ge p (j - 1) with c | c
        · have := hrs p (j - 1) c (by omega)
          omega
        · obtain rfl : p = j - 1 := by omega
          omega
      · have g30 := nq_nle (by omega) (by omega) h30
        refine pE_aload_n dX4_sortStoreys_33 rfl rfl ?_
        refine pE_getR dX4_sortStoreys_34 flX4_9 rfl (by first | assumption | rfl) (by first | assumption | rfl) ?_
        refine pE_iload_n dX4_sortStoreys_37 rfl rfl ?_
        refine pE_aload_n dX4_sortStoreys_38 rfl rfl ?_
        refine pE_getR dX4_sortStoreys_39 flX4_9 rfl (by first | assumption | rfl) (by first | assumption | rfl) ?_
        refine pE_iload_n dX4_sortStoreys_42 rfl rfl ?_
        refine pE_iconst (v := nI 1) dX4_sortStoreys_43 rfl ?_
        refine pE_isubN dX4_sortStoreys_44 (by omega) ?_
        refine pE_ialoadN dX4_sortStoreys_45 (by first | assumption | rfl) (by first | assumption | omega) (by omega) ?_
        rw [h1 (j - 1) (by omega)]
        refine pE_iastoreN dX4_sortStoreys_46 (by first | assumption | rfl) (by first | assumption | omega) (by omega) ?_
        refine pE_iinc (c0 := -1) (lc' := [_, _, _, some (.int _)]) dX4_sortStoreys_47 rfl rfl rfl rfl ?_
        refine pE_goto (tgt := 12) dX4_sortStoreys_50 (by decide) ?_
        rw [show nI j = nI (j - 1 + 1) from congrArg nI (by omega), nI_dec]
        refine ih (j - 1) _ (by omega) (by omega) (hx.pu (by omega)) (fun p hp => ?_) (fun p h6 h7 => ?_) (fun p h6 h7 => ?_) (fun p hp => ?_)
        · rw [pu_at, if_neg (by omega)]; exact h1 p (by omega)
        · rw [pu_at]
          by_cases c : p = j
          · rw [if_pos ⟨rfl, c⟩, c]
          · rw [if_neg (fun q => c q.2)]; exact h2 p (by omega) h7
        · by_cases c : p = j - 1
          · rw [c]; omega
          · exact h3 p (by omega) h7
        · rw [pu_ne _ _ _ (by decide)]; exact h5 p hp
set_option maxHeartbeats 400000 in
set_option maxRecDepth 100000 in
theorem L_X4_sortS1 {l : Launch} {X : pX} {t g : Nat} {I : pHI} {J : pHJ} {Q : pQ} {H : pN} (ht : isH t) (hH : cH t H I) (hr : rH H) (hq : ∀ I2 s, sT I I2 → (∀ p, p < H 1 → I2 63 p = nI (s p)) → (∀ p, p < H 1 → I2 64 p = nI 0) → (∀ a b, a < b → b < H 1 → s a ≤ s b) → (hL s (H 1)).Perm (hL (fun j => H (8 + j)) (H 1)) → (∀ p, p < H 1 → s p ≤ 20) → Q none I2 J (pR t g)) : ∀ (fu : Nat) (i : Nat) (h : Nat → Nat) (v3 : Option Value) (I1 : pHI), H 1 - i < fu → (i ≤ H 1) → (sT I I1) → (∀ p, p < i → I1 63 p = nI (h p)) → (∀ p, p < i → I1 64 p = nI 0) → (∀ a b, a < b → b < i → h a ≤ h b) → (∀ w, cnE h w i = cnE (fun j => H (8 + j)) w i) → (∀ p, p < i → h p ≤ 20) → pE l X mX4_sortStoreys 0 pK 2 [some (.ref 62), some (.ref t), some (.int (nI i)), v3] [] pK I1 J (pR t g) Q := by
  obtain ⟨fHFht0, fHFht1, fHFht2, fHFht3, fHFht4, fHFht5, fHFht6, fHFht7, fHFht8, fHFht9, fHFht10, fHFht11, fHFht12, fHFht13, fHFht14, fHFht15, fHFht16, fHFht17, fHFht18, fHFht19, fHFht20, fHFht21, fHFht22, fHFht23, fHFht24, fHFht25, fHFht26⟩ := HF t g ht
  intro fu
  induction fu with
  | zero => intro i h v3 I1 hn; exact absurd hn (Nat.not_lt_zero _)
  | succ fu ih =>
    intro i h v3 I1 hn hi hx h1 h5 hrs hcn hb
    have hn8 := hr.2.1
    have hH1 := hH.sT ht hx
    refine pE_iload_n dX4_sortStoreys_2 rfl rfl ?_
    refine pE_aload_n dX4_sortStoreys_3 rfl rfl ?_
    refine pE_getI dX4_sortStoreys_4 flX4_36 rfl (Or.inl rfl) (by first | assumption | rfl) ?_
    rw [hH1.2.2.1]
    refine pE_icmp_ge (tgt := 78) dX4_sortStoreys_7 (by decide) (fun h7 => ?_) (fun h7 => ?_)
    · have g7 := nq_le (by omega) (by omega) h7
      refine pE_vret dX4_sortStoreys_78 rfl rfl ?_
      obtain rfl : i = H 1 := by omega
      exact hq I1 h hx h1 h5 hrs (hL_perm.mpr hcn) hb
    · have g7 := nq_nle (by omega) (by omega) h7
      refine pE_iload_n dX4_sortStoreys_10 rfl rfl ?_
      refine pE_istore_n (lc' := [_, _, _, some (.int _)]) dX4_sortStoreys_11 rfl (Nat.le_of_ble_eq_true rfl) rfl rfl ?_
      refine L_X4_sortS2 ht hH1 hr (h := h) (i := i) (by omega) hrs hb (fun I2 h2 k1 k2 k3 k4 k5 k6 j2 => ?_) (i + 1) i I1 (by omega) (Nat.le_refl _) sT.rf h1 (fun p h6 h7 => absurd h6 (by omega)) (fun p h6 h7 => absurd h6 (by omega)) h5
      exact ih (i + 1) h2 _ I2 (by omega) (by omega) (hx.tr k1) k2 k3 k4 (fun w => by rw [k5, cnE_succ, hcn]) k6
set_option maxHeartbeats 400000 in
set_option maxRecDepth 100000 in
theorem M_X4_sortStoreys {l : Launch} {X : pX} {t g : Nat} {I : pHI} {J : pHJ} {Q : pQ} {H : pN} (ht : isH t) (hH : cH t H I) (hr : rH H) (hq : ∀ I2 s, sT I I2 → (∀ p, p < H 1 → I2 63 p = nI (s p)) → (∀ p, p < H 1 → I2 64 p = nI 0) → (∀ a b, a < b → b < H 1 → s a ≤ s b) → (hL s (H 1)).Perm (hL (fun j => H (8 + j)) (H 1)) → (∀ p, p < H 1 → s p ≤ 20) → Q none I2 J (pR t g)) : pM l X yX4_sortStoreys mX4_sortStoreys 0 [.ref 62, .ref t] pK pK I J (pR t g) Q := by
  refine pM_of rfl (fun h => by cases h) rfl pKM (Nat.le_of_ble_eq_true rfl) ?_
  refine pE_iconst (v := nI 0) dX4_sortStoreys_0 rfl ?_
  refine pE_istore_n (lc' := [_, _, some (.int _), _]) dX4_sortStoreys_1 rfl (Nat.le_of_ble_eq_true rfl) rfl rfl ?_
  exact L_X4_sortS1 ht hH hr hq (H 1 + 1) 0 (fun j => H (8 + j)) _ I (by omega) (by omega) sT.rf (fun p hp => absurd hp (by omega)) (fun p hp => absurd hp (by omega)) (fun a b e f => absurd f (by omega)) (fun w => rfl) (fun p hp => absurd hp (by omega))
