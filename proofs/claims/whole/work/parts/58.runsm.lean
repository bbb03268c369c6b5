set_option maxHeartbeats 400000 in
set_option maxRecDepth 100000 in
theorem LF_X12_isRun {l : Launch} {X : pX} {t g : Nat} {I : pHI} {J : pHJ} {Q : pQ} {a lo hi j : Nat} {k : Int32} {v7 : Option Value} {m u : Nat} {M : pMk} (hM : mM I m u M) (hm30 : m ≤ 30) (hj : j ≤ m) (hq : Q (some (.int (nI 0))) I J (pR t g)) : pE l X mX12_isRun 1 pK 22 [some (.ref 67), some (.int (nI a)), some (.int (nI lo)), some (.int (nI hi)), some (.int k), some (.int (nI 0)), some (.int (nI j)), v7] [] pK I J (pR t g) Q := by
  refine pE_iload dX12_isRun_22 rfl ?_
  refine pE_aload_n dX12_isRun_24 rfl rfl ?_
  refine pE_getI dX12_isRun_25 flX12_362 rfl (Or.inl rfl) (by first | assumption | rfl) ?_
  rw [hM.1]
  refine pE_icmp_ge (tgt := 146) dX12_isRun_28 (by decide) (fun h28 => ?_) (fun h28 => ?_)
  · have g28 := nq_le (by omega) (by omega) h28
    refine pE_iload dX12_isRun_146 rfl ?_
    refine pE_zret dX12_isRun_148 rfl (by first | exact Or.inl nI_0 | exact Or.inr nI_1' | assumption) rfl ?_
    exact hq
  · have g28 := nq_nle (by omega) (by omega) h28
    refine pE_iload dX12_isRun_31 rfl ?_
    refine pE_if_eq (tgt := 146) dX12_isRun_33 (by decide) (fun h33 => ?_) (fun h33 => ?_)
    · have g33 := nq_eq0 (by omega) h33
      refine pE_iload dX12_isRun_146 rfl ?_
      refine pE_zret dX12_isRun_148 rfl (by first | exact Or.inl nI_0 | exact Or.inr nI_1' | assumption) rfl ?_
      exact hq
    · have g33 := nq_ne0 (by omega) h33
      omega
set_option maxHeartbeats 400000 in
set_option maxRecDepth 100000 in
theorem LT_X12_isRun {l : Launch} {X : pX} {t g : Nat} {I : pHI} {J : pHJ} {Q : pQ} {a lo hi : Nat} {k : Int32} {m u : Nat} {M : pMk} {H : pN} (hH : mH H I) (hr : rH H) (hM : mM I m u M) (hrM : rM H m u M) (ha : a < H 1) (hlo : lo < hi) (hhi : hi ≤ H 0) (h1 : runP M k m (H (24 + a)) (H (16 + a)) lo hi → Q (some (.int (nI 1))) I J (pR t g)) (h0 : ¬ runP M k m (H (24 + a)) (H (16 + a)) lo hi → Q (some (.int (nI 0))) I J (pR t g)) : ∀ (fu j : Nat) (v7 : Option Value), m - j < fu → j ≤ m → hi - lo ≤ H (16 + a) → (∀ i, i < j → cnM M k i → okM M (H (24 + a)) lo hi i) → pE l X mX12_isRun 1 pK 22 [some (.ref 67), some (.int (nI a)), some (.int (nI lo)), some (.int (nI hi)), some (.int k), some (.int (nI 1)), some (.int (nI j)), v7] [] pK I J (pR t g) Q := by
  have hm30 := hrM.1
  have hn20 := hr.1.2
  have hn8 := hr.2.1
  have hv9 := (hr.2.2.2.2 a (by omega)).2.2.1
  intro fu
  induction fu with
  | zero => intro j v7 hn; exact absurd hn (Nat.not_lt_zero _)
  | succ fu ih =>
    intro j v7 hn hj hst hall
    refine pE_iload dX12_isRun_22 rfl ?_
    refine pE_aload_n dX12_isRun_24 rfl rfl ?_
    refine pE_getI dX12_isRun_25 flX12_362 rfl (Or.inl rfl) (by first | assumption | rfl) ?_
    rw [hM.1]
    refine pE_icmp_ge (tgt := 146) dX12_isRun_28 (by decide) (fun h28 => ?_) (fun h28 => ?_)
    · have g28 := nq_le (by omega) (by omega) h28
      refine pE_iload dX12_isRun_146 rfl ?_
      refine pE_zret dX12_isRun_148 rfl (by first | exact Or.inl nI_0 | exact Or.inr nI_1' | assumption) rfl ?_
      obtain rfl : j = m := by omega
      exact h1 ⟨hst, hall⟩
    · have g28 := nq_nle (by omega) (by omega) h28
      refine pE_iload dX12_isRun_31 rfl ?_
      refine pE_if_eq (tgt := 146) dX12_isRun_33 (by decide) (fun h33 => ?_) (fun h33 => ?_)
      · have g33 := nq_eq0 (by omega) h33
        omega
      · have g33 := nq_ne0 (by omega) h33
        have hr3 := hrM.2.2 j (by omega)
        obtain ⟨m1, m2, m3, m4, m5⟩ := hM.2.2 j (by omega)
        have ht1 := Bool.toNat_le (M j).1
        have ht2 := Bool.toNat_le (M j).2.1
        have skip : ¬ cnM M k j → ∀ i, i < j + 1 → cnM M k i → okM M (H (24 + a)) lo hi i := fun hc i hi2 hci => by
          by_cases e : i = j
          · subst e; exact absurd hci hc
          · exact hall i (by omega) hci
        have good : okM M (H (24 + a)) lo hi j → ∀ i, i < j + 1 → cnM M k i → okM M (H (24 + a)) lo hi i := fun hc i hi2 hci => by
          by_cases e : i = j
          · subst e; exact hc
          · exact hall i (by omega) hci
        have bad : cnM M k j → ¬ okM M (H (24 + a)) lo hi j → ¬ runP M k m (H (24 + a)) (H (16 + a)) lo hi := fun hc hn2 hq2 => hn2 (hq2.2 j (by omega) hc)
        cases e : (M j).2.2.2.2 with
        | none =>
          refine pE_aload_n dX12_isRun_36 rfl rfl ?_
          refine pE_getR dX12_isRun_37 flX12_124 rfl (by first | assumption | rfl) (by first | assumption | rfl) ?_
          refine pE_iload dX12_isRun_40 rfl ?_
          refine pE_ialoadN dX12_isRun_42 (by first | assumption | rfl) (by first | assumption | omega) (by omega) ?_
          rw [m4]
          refine pE_iload dX12_isRun_43 rfl ?_
          refine pE_icmp_gt (tgt := 140) dX12_isRun_45 (by decide) (fun h45 => ?_) (fun h45 => ?_)
          · refine pE_iincN (c0 := 1) (lc' := [_, _, _, _, _, _, some (.int _), _]) dX12_isRun_140 rfl rfl rfl rfl ?_
            refine pE_goto (tgt := 22) dX12_isRun_143 (by decide) ?_
            first
            | (have hc0 : k < nI (M j).2.2.2.1 := h45
               exact ih (j + 1) _ (by omega) (by omega) hst (skip (fun c => c.1 hc0)))
            | (have hb : okM M (H (24 + a)) lo hi j := by
                 unfold okM
                 first
                 | (have es : (M j).1 = true := hsT
                    rw [es, if_pos rfl]
                    first
                    | (have hin : ¬ nI (M j).2.2.1 < nI lo := k1
                       have := nq_nlt (by omega) (by omega) k1
                       have := nq_nlt (by omega) (by omega) k2
                       have q3 := nq_eq (by omega) (by omega) h130
                       exact ⟨fun _ => ⟨by omega, by omega⟩, fun _ => toN1 (by omega)⟩)
                    | (have q3 := nq_eq (by omega) (by omega) h130
                       have hin : nI (M j).2.2.1 < nI lo ∨ nI hi < nI (M j).2.2.1 := kk
                       refine ⟨fun c => absurd c (toN0 (by omega)), fun c => ?_⟩
                       rcases hin with hin | hin
                       · have := nq_lt (by omega) (by omega) hin; omega
                       · have := nq_lt (by omega) (by omega) hin; omega))
                 | (have es : (M j).1 = false := hsF
                    rw [es, if_neg (by decide)]
                    have q3 := g130
                    first
                    | (have hin : (M j).2.2.1 ≤ H (24 + a) := g111
                       exact ⟨fun _ => hin, fun _ => toN1 (by omega)⟩)
                    | (have hin : H (24 + a) < (M j).2.2.1 := g111
                       exact ⟨fun c => absurd c (toN0 (by omega)), fun c => by omega⟩))
               exact ih (j + 1) _ (by omega) (by omega) hst (good hb))
            | (refine LF_X12_isRun hM hm30 (by omega) (h0 (bad ⟨h45, fun v hv => by rw [e] at hv; simp at hv⟩ (fun hb => ?_)))
               unfold okM at hb
               first
               | (have es : (M j).1 = true := hsT
                  rw [es, if_pos rfl] at hb
                  have q3 := nq_ne (by omega) (by omega) h130
                  first
                  | (have hin : ¬ nI (M j).2.2.1 < nI lo := k1
                     have q4 := nq_nlt (by omega) (by omega) k1
                     have q5 := nq_nlt (by omega) (by omega) k2
                     have := hb.mpr ⟨q4, q5⟩
                     rw [this] at q3; simp at q3)
                  | (have hin : nI (M j).2.2.1 < nI lo ∨ nI hi < nI (M j).2.2.1 := kk
                     have := hb.mp (toN1 (by omega))
                     rcases hin with hin | hin
                     · have := nq_lt (by omega) (by omega) hin; omega
                     · have := nq_lt (by omega) (by omega) hin; omega))
               | (have es : (M j).1 = false := hsF
                  rw [es, if_neg (by decide)] at hb
                  have q3 := g130
                  first
                  | (have hin : (M j).2.2.1 ≤ H (24 + a) := g111
                     have := hb.mpr hin
                     rw [this] at q3; simp at q3)
                  | (have hin : H (24 + a) < (M j).2.2.1 := g111
                     have := hb.mp (toN1 (by omega))
                     omega)))
          · refine pE_aload_n dX12_isRun_48 rfl rfl ?_
            refine pE_getR dX12_isRun_49 flX12_127 rfl (by first | assumption | rfl) (by first | assumption | rfl) ?_
            refine pE_iload dX12_isRun_52 rfl ?_
            refine pE_ialoadN dX12_isRun_54 (by first | assumption | rfl) (by first | assumption | omega) (by omega) ?_
            rw [m5, e, show oI none = (-1 : Int32) from rfl]
            refine pE_if_lt (tgt := 73) dX12_isRun_55 (by decide) (fun h55 => ?_) (fun h55 => ?_)
            · refine pE_aload_n dX12_isRun_73 rfl rfl ?_
              refine pE_getR dX12_isRun_74 flX12_118 rfl (by first | assumption | rfl) (by first | assumption | rfl) ?_
              refine pE_iload dX12_isRun_77 rfl ?_
              refine pE_ialoadN dX12_isRun_79 (by first | assumption | rfl) (by first | assumption | omega) (by omega) ?_
              rw [m1]
              refine pE_if_ne (tgt := 98) dX12_isRun_80 (by decide) (fun h80 => ?_) (fun h80 => ?_)
              · have g80 := nq_ne0 (by omega) h80
                have hsF : (M j).1 = false := by cases e8 : (M j).1 with
                  | false => rfl
                  | true => rw [e8] at g80; simp at g80
                refine pE_aload_n dX12_isRun_98 rfl rfl ?_
                refine pE_getR dX12_isRun_99 flX12_73 rfl (by first | assumption | rfl) (by first | assumption | rfl) ?_
                refine pE_iload_n dX12_isRun_102 rfl rfl ?_
                refine pE_ialoadN dX12_isRun_103 (by first | assumption | rfl) (by first | assumption | omega) (by omega) ?_
                rw [(hH.2.2.2 a ha).2.2.1]
                refine pE_aload_n dX12_isRun_104 rfl rfl ?_
                refine pE_getR dX12_isRun_105 flX12_121 rfl (by first | assumption | rfl) (by first | assumption | rfl) ?_
                refine pE_iload dX12_isRun_108 rfl ?_
                refine pE_ialoadN dX12_isRun_110 (by first | assumption | rfl) (by first | assumption | omega) (by omega) ?_
                rw [m3]
                refine pE_icmp_lt (tgt := 118) dX12_isRun_111 (by decide) (fun h111 => ?_) (fun h111 => ?_)
                · have g111 := nq_lt (by omega) (by omega) h111
                  refine pE_iconst (v := nI 0) dX12_isRun_118 rfl ?_
                  refine pE_istore (lc' := [_, _, _, _, _, _, _, some (.int _)]) dX12_isRun_119 (Nat.le_of_ble_eq_true rfl) rfl rfl ?_
                  refine pE_iload dX12_isRun_121 rfl ?_
                  refine pE_aload_n dX12_isRun_123 rfl rfl ?_
                  refine pE_getR dX12_isRun_124 flX12_130 rfl (by first | assumption | rfl) (by first | assumption | rfl) ?_
                  refine pE_iload dX12_isRun_127 rfl ?_
                  refine pE_zaloadN dX12_isRun_129 (by first | assumption | rfl) (by first | assumption | omega) (by omega) ?_
                  rw [m2]
                  refine pE_icmp_ne (tgt := 137) dX12_isRun_130 (by decide) (fun h130 => ?_) (fun h130 => ?_)
                  · have g130 := nq_ne (by omega) (by omega) h130
                    refine pE_iconst (v := nI 0) dX12_isRun_137 rfl ?_
                    refine pE_istore (lc' := [_, _, _, _, _, some (.int _), _, _]) dX12_isRun_138 (Nat.le_of_ble_eq_true rfl) rfl rfl ?_
                    refine pE_iincN (c0 := 1) (lc' := [_, _, _, _, _, _, some (.int _), _]) dX12_isRun_140 rfl rfl rfl rfl ?_
                    refine pE_goto (tgt := 22) dX12_isRun_143 (by decide) ?_
                    first
                    | (have hc0 : k < nI (M j).2.2.2.1 := h45
                       exact ih (j + 1) _ (by omega) (by omega) hst (skip (fun c => c.1 hc0)))
                    | (have hb : okM M (H (24 + a)) lo hi j := by
                         unfold okM
                         first
                         | (have es : (M j).1 = true := hsT
                            rw [es, if_pos rfl]
                            first
                            | (have hin : ¬ nI (M j).2.2.1 < nI lo := k1
                               have := nq_nlt (by omega) (by omega) k1
                               have := nq_nlt (by omega) (by omega) k2
                               have q3 := nq_eq (by omega) (by omega) h130
                               exact ⟨fun _ => ⟨by omega, by omega⟩, fun _ => toN1 (by omega)⟩)
                            | (have q3 := nq_eq (by omega) (by omega) h130
                               have hin : nI (M j).2.2.1 < nI lo ∨ nI hi < nI (M j).2.2.1 := kk
                               refine ⟨fun c => absurd c (toN0 (by omega)), fun c => ?_⟩
                               rcases hin with hin | hin
                               · have := nq_lt (by omega) (by omega) hin; omega
                               · have := nq_lt (by omega) (by omega) hin; omega))
                         | (have es : (M j).1 = false := hsF
                            rw [es, if_neg (by decide)]
                            have q3 := g130
                            first
                            | (have hin : (M j).2.2.1 ≤ H (24 + a) := g111
                               exact ⟨fun _ => hin, fun _ => toN1 (by omega)⟩)
                            | (have hin : H (24 + a) < (M j).2.2.1 := g111
                               exact ⟨fun c => absurd c (toN0 (by omega)), fun c => by omega⟩))
                       exact ih (j + 1) _ (by omega) (by omega) hst (good hb))
                    | (refine LF_X12_isRun hM hm30 (by omega) (h0 (bad ⟨h45, fun v hv => by rw [e] at hv; simp at hv⟩ (fun hb => ?_)))
                       unfold okM at hb
                       first
                       | (have es : (M j).1 = true := hsT
                          rw [es, if_pos rfl] at hb
                          have q3 := nq_ne (by omega) (by omega) h130
                          first
                          | (have hin : ¬ nI (M j).2.2.1 < nI lo := k1
                             have q4 := nq_nlt (by omega) (by omega) k1
                             have q5 := nq_nlt (by omega) (by omega) k2
                             have := hb.mpr ⟨q4, q5⟩
                             rw [this] at q3; simp at q3)
                          | (have hin : nI (M j).2.2.1 < nI lo ∨ nI hi < nI (M j).2.2.1 := kk
                             have := hb.mp (toN1 (by omega))
                             rcases hin with hin | hin
                             · have := nq_lt (by omega) (by omega) hin; omega
                             · have := nq_lt (by omega) (by omega) hin; omega))
                       | (have es : (M j).1 = false := hsF
                          rw [es, if_neg (by decide)] at hb
                          have q3 := g130
                          first
                          | (have hin : (M j).2.2.1 ≤ H (24 + a) := g111
                             have := hb.mpr hin
                             rw [this] at q3; simp at q3)
                          | (have hin : H (24 + a) < (M j).2.2.1 := g111
                             have := hb.mp (toN1 (by omega))
                             omega)))
                  · have g130 := nq_eq (by omega) (by omega) h130
                    refine pE_iconst (v := nI 1) dX12_isRun_133 rfl ?_
                    refine pE_goto (tgt := 138) dX12_isRun_134 (by decide) ?_
                    refine pE_istore (lc' := [_, _, _, _, _, some (.int _), _, _]) dX12_isRun_138 (Nat.le_of_ble_eq_true rfl) rfl rfl ?_
                    refine pE_iincN (c0 := 1) (lc' := [_, _, _, _, _, _, some (.int _), _]) dX12_isRun_140 rfl rfl rfl rfl ?_
                    refine pE_goto (tgt := 22) dX12_isRun_143 (by decide) ?_
                    first
                    | (have hc0 : k < nI (M j).2.2.2.1 := h45
                       exact ih (j + 1) _ (by omega) (by omega) hst (skip (fun c => c.1 hc0)))
                    | (have hb : okM M (H (24 + a)) lo hi j := by
                         unfold okM
                         first
                         | (have es : (M j).1 = true := hsT
                            rw [es, if_pos rfl]
                            first
                            | (have hin : ¬ nI (M j).2.2.1 < nI lo := k1
                               have := nq_nlt (by omega) (by omega) k1
                               have := nq_nlt (by omega) (by omega) k2
                               have q3 := nq_eq (by omega) (by omega) h130
                               exact ⟨fun _ => ⟨by omega, by omega⟩, fun _ => toN1 (by omega)⟩)
                            | (have q3 := nq_eq (by omega) (by omega) h130
                               have hin : nI (M j).2.2.1 < nI lo ∨ nI hi < nI (M j).2.2.1 := kk
                               refine ⟨fun c => absurd c (toN0 (by omega)), fun c => ?_⟩
                               rcases hin with hin | hin
                               · have := nq_lt (by omega) (by omega) hin; omega
                               · have := nq_lt (by omega) (by omega) hin; omega))
                         | (have es : (M j).1 = false := hsF
                            rw [es, if_neg (by decide)]
                            have q3 := g130
                            first
                            | (have hin : (M j).2.2.1 ≤ H (24 + a) := g111
                               exact ⟨fun _ => hin, fun _ => toN1 (by omega)⟩)
                            | (have hin : H (24 + a) < (M j).2.2.1 := g111
                               exact ⟨fun c => absurd c (toN0 (by omega)), fun c => by omega⟩))
                       exact ih (j + 1) _ (by omega) (by omega) hst (good hb))
                    | (refine LF_X12_isRun hM hm30 (by omega) (h0 (bad ⟨h45, fun v hv => by rw [e] at hv; simp at hv⟩ (fun hb => ?_)))
                       unfold okM at hb
                       first
                       | (have es : (M j).1 = true := hsT
                          rw [es, if_pos rfl] at hb
                          have q3 := nq_ne (by omega) (by omega) h130
                          first
                          | (have hin : ¬ nI (M j).2.2.1 < nI lo := k1
                             have q4 := nq_nlt (by omega) (by omega) k1
                             have q5 := nq_nlt (by omega) (by omega) k2
                             have := hb.mpr ⟨q4, q5⟩
                             rw [this] at q3; simp at q3)
                          | (have hin : nI (M j).2.2.1 < nI lo ∨ nI hi < nI (M j).2.2.1 := kk
                             have := hb.mp (toN1 (by omega))
                             rcases hin with hin | hin
                             · have := nq_lt (by omega) (by omega) hin; omega
                             · have := nq_lt (by omega) (by omega) hin; omega))
                       | (have es : (M j).1 = false := hsF
                          rw [es, if_neg (by decide)] at hb
                          have q3 := g130
                          first
                          | (have hin : (M j).2.2.1 ≤ H (24 + a) := g111
                             have := hb.mpr hin
                             rw [this] at q3; simp at q3)
                          | (have hin : H (24 + a) < (M j).2.2.1 := g111
                             have := hb.mp (toN1 (by omega))
                             omega)))
                · have g111 := nq_nlt (by omega) (by omega) h111
                  refine pE_iconst (v := nI 1) dX12_isRun_114 rfl ?_
                  refine pE_goto (tgt := 119) dX12_isRun_115 (by decide) ?_
                  refine pE_istore (lc' := [_, _, _, _, _, _, _, some (.int _)]) dX12_isRun_119 (Nat.le_of_ble_eq_true rfl) rfl rfl ?_
                  refine pE_iload dX12_isRun_121 rfl ?_
                  refine pE_aload_n dX12_isRun_123 rfl rfl ?_
                  refine pE_getR dX12_isRun_124 flX12_130 rfl (by first | assumption | rfl) (by first | assumption | rfl) ?_
                  refine pE_iload dX12_isRun_127 rfl ?_
                  refine pE_zaloadN dX12_isRun_129 (by first | assumption | rfl) (by first | assumption | omega) (by omega) ?_
                  rw [m2]
                  refine pE_icmp_ne (tgt := 137) dX12_isRun_130 (by decide) (fun h130 => ?_) (fun h130 => ?_)
                  · have g130 := nq_ne (by omega) (by omega) h130
                    refine pE_iconst (v := nI 0) dX12_isRun_137 rfl ?_
                    refine pE_istore (lc' := [_, _, _, _, _, some (.int _), _, _]) dX12_isRun_138 (Nat.le_of_ble_eq_true rfl) rfl rfl ?_
                    refine pE_iincN (c0 := 1) (lc' := [_, _, _, _, _, _, some (.int _), _]) dX12_isRun_140 rfl rfl rfl rfl ?_
                    refine pE_goto (tgt := 22) dX12_isRun_143 (by decide) ?_
                    first
                    | (have hc0 : k < nI (M j).2.2.2.1 := h45
                       exact ih (j + 1) _ (by omega) (by omega) hst (skip (fun c => c.1 hc0)))
                    | (have hb : okM M (H (24 + a)) lo hi j := by
                         unfold okM
                         first
                         | (have es : (M j).1 = true := hsT
                            rw [es, if_pos rfl]
                            first
                            | (have hin : ¬ nI (M j).2.2.1 < nI lo := k1
                               have := nq_nlt (by omega) (by omega) k1
                               have := nq_nlt (by omega) (by omega) k2
                               have q3 := nq_eq (by omega) (by omega) h130
                               exact ⟨fun _ => ⟨by omega, by omega⟩, fun _ => toN1 (by omega)⟩)
                            | (have q3 := nq_eq (by omega) (by omega) h130
                               have hin : nI (M j).2.2.1 < nI lo ∨ nI hi < nI (M j).2.2.1 := kk
                               refine ⟨fun c => absurd c (toN0 (by omega)), fun c => ?_⟩
                               rcases hin with hin | hin
                               · have := nq_lt (by omega) (by omega) hin; omega
                               · have := nq_lt (by omega) (by omega) hin; omega))
                         | (have es : (M j).1 = false := hsF
                            rw [es, if_neg (by decide)]
                            have q3 := g130
                            first
                            | (have hin : (M j).2.2.1 ≤ H (24 + a) := g111
                               exact ⟨fun _ => hin, fun _ => toN1 (by omega)⟩)
                            | (have hin : H (24 + a) < (M j).2.2.1 := g111
                               exact ⟨fun c => absurd c (toN0 (by omega)), fun c => by omega⟩))
                       exact ih (j + 1) _ (by omega) (by omega) hst (good hb))
                    | (refine LF_X12_isRun hM hm30 (by omega) (h0 (bad ⟨h45, fun v hv => by rw [e] at hv; simp at hv⟩ (fun hb => ?_)))
                       unfold okM at hb
                       first
                       | (have es : (M j).1 = true := hsT
                          rw [es, if_pos rfl] at hb
                          have q3 := nq_ne (by omega) (by omega) h130
                          first
                          | (have hin : ¬ nI (M j).2.2.1 < nI lo := k1
                             have q4 := nq_nlt (by omega) (by omega) k1
                             have q5 := nq_nlt (by omega) (by omega) k2
                             have := hb.mpr ⟨q4, q5⟩
                             rw [this] at q3; simp at q3)
                          | (have hin : nI (M j).2.2.1 < nI lo ∨ nI hi < nI (M j).2.2.1 := kk
                             have := hb.mp (toN1 (by omega))
                             rcases hin with hin | hin
                             · have := nq_lt (by omega) (by omega) hin; omega
                             · have := nq_lt (by omega) (by omega) hin; omega))
                       | (have es : (M j).1 = false := hsF
                          rw [es, if_neg (by decide)] at hb
                          have q3 := g130
                          first
                          | (have hin : (M j).2.2.1 ≤ H (24 + a) := g111
                             have := hb.mpr hin
                             rw [this] at q3; simp at q3)
                          | (have hin : H (24 + a) < (M j).2.2.1 := g111
                             have := hb.mp (toN1 (by omega))
                             omega)))
                  · have g130 := nq_eq (by omega) (by omega) h130
                    refine pE_iconst (v := nI 1) dX12_isRun_133 rfl ?_
                    refine pE_goto (tgt := 138) dX12_isRun_134 (by decide) ?_
                    refine pE_istore (lc' := [_, _, _, _, _, some (.int _), _, _]) dX12_isRun_138 (Nat.le_of_ble_eq_true rfl) rfl rfl ?_
                    refine pE_iincN (c0 := 1) (lc' := [_, _, _, _, _, _, some (.int _), _]) dX12_isRun_140 rfl rfl rfl rfl ?_
                    refine pE_goto (tgt := 22) dX12_isRun_143 (by decide) ?_
                    first
                    | (have hc0 : k < nI (M j).2.2.2.1 := h45
                       exact ih (j + 1) _ (by omega) (by omega) hst (skip (fun c => c.1 hc0)))
                    | (have hb : okM M (H (24 + a)) lo hi j := by
                         unfold okM
                         first
                         | (have es : (M j).1 = true := hsT
                            rw [es, if_pos rfl]
                            first
                            | (have hin : ¬ nI (M j).2.2.1 < nI lo := k1
                               have := nq_nlt (by omega) (by omega) k1
                               have := nq_nlt (by omega) (by omega) k2
                               have q3 := nq_eq (by omega) (by omega) h130
                               exact ⟨fun _ => ⟨by omega, by omega⟩, fun _ => toN1 (by omega)⟩)
                            | (have q3 := nq_eq (by omega) (by omega) h130
                               have hin : nI (M j).2.2.1 < nI lo ∨ nI hi < nI (M j).2.2.1 := kk
                               refine ⟨fun c => absurd c (toN0 (by omega)), fun c => ?_⟩
                               rcases hin with hin | hin
                               · have := nq_lt (by omega) (by omega) hin; omega
                               · have := nq_lt (by omega) (by omega) hin; omega))
                         | (have es : (M j).1 = false := hsF
                            rw [es, if_neg (by decide)]
                            have q3 := g130
                            first
                            | (have hin : (M j).2.2.1 ≤ H (24 + a) := g111
                               exact ⟨fun _ => hin, fun _ => toN1 (by omega)⟩)
                            | (have hin : H (24 + a) < (M j).2.2.1 := g111
                               exact ⟨fun c => absurd c (toN0 (by omega)), fun c => by omega⟩))
                       exact ih (j + 1) _ (by omega) (by omega) hst (good hb))
                    | (refine LF_X12_isRun hM hm30 (by omega) (h0 (bad ⟨h45, fun v hv => by rw [e] at hv; simp at hv⟩ (fun hb => ?_)))
                       unfold okM at hb
                       first
                       | (have es : (M j).1 = true := hsT
                          rw [es, if_pos rfl] at hb
                          have q3 := nq_ne (by omega) (by omega) h130
                          first
                          | (have hin : ¬ nI (M j).2.2.1 < nI lo := k1
                             have q4 := nq_nlt (by omega) (by omega) k1
                             have q5 := nq_nlt (by omega) (by omega) k2
                             have := hb.mpr ⟨q4, q5⟩
                             rw [this] at q3; simp at q3)
                          | (have hin : nI (M j).2.2.1 < nI lo ∨ nI hi < nI (M j).2.2.1 := kk
                             have := hb.mp (toN1 (by omega))
                             rcases hin with hin | hin
                             · have := nq_lt (by omega) (by omega) hin; omega
                             · have := nq_lt (by omega) (by omega) hin; omega))
                       | (have es : (M j).1 = false := hsF
                          rw [es, if_neg (by decide)] at hb
                          have q3 := g130
                          first
                          | (have hin : (M j).2.2.1 ≤ H (24 + a) := g111
                             have := hb.mpr hin
                             rw [this] at q3; simp at q3)
                          | (have hin : H (24 + a) < (M j).2.2.1 := g111
                             have := hb.mp (toN1 (by omega))
                             omega)))
              · have g80 := nq_eq0 (by omega) h80
                have hsT : (M j).1 = true := by cases e8 : (M j).1 with
                  | true => rfl
                  | false => rw [e8] at g80; simp at g80
                refine pE_aload_n dX12_isRun_83 rfl rfl ?_
                refine pE_getR dX12_isRun_84 flX12_121 rfl (by first | assumption | rfl) (by first | assumption | rfl) ?_
                refine pE_iload dX12_isRun_87 rfl ?_
                refine pE_ialoadN dX12_isRun_89 (by first | assumption | rfl) (by first | assumption | omega) (by omega) ?_
                rw [m3]
                refine pE_iload_n dX12_isRun_90 rfl rfl ?_
                refine pE_iload_n dX12_isRun_91 rfl rfl ?_
                refine pE_callS (d' := 0) (as := [_, _, _]) dX12_isRun_92 lkX12_368 (cwX12_isIn _ _) svX12_isIn rfl rfl (Nat.le_of_ble_eq_true rfl) (by decide) pKK ?_
                refine M_X12_isIn  (fun k1 k2 => ?_) (fun kk => ?_)
                · refine pE_goto (tgt := 119) dX12_isRun_95 (by decide) ?_
                  refine pE_istore (lc' := [_, _, _, _, _, _, _, some (.int _)]) dX12_isRun_119 (Nat.le_of_ble_eq_true rfl) rfl rfl ?_
                  refine pE_iload dX12_isRun_121 rfl ?_
                  refine pE_aload_n dX12_isRun_123 rfl rfl ?_
                  refine pE_getR dX12_isRun_124 flX12_130 rfl (by first | assumption | rfl) (by first | assumption | rfl) ?_
                  refine pE_iload dX12_isRun_127 rfl ?_
                  refine pE_zaloadN dX12_isRun_129 (by first | assumption | rfl) (by first | assumption | omega) (by omega) ?_
                  rw [m2]
                  refine pE_icmp_ne (tgt := 137) dX12_isRun_130 (by decide) (fun h130 => ?_) (fun h130 => ?_)
                  · refine pE_iconst (v := nI 0) dX12_isRun_137 rfl ?_
                    refine pE_istore (lc' := [_, _, _, _, _, some (.int _), _, _]) dX12_isRun_138 (Nat.le_of_ble_eq_true rfl) rfl rfl ?_
                    refine pE_iincN (c0 := 1) (lc' := [_, _, _, _, _, _, some (.int _), _]) dX12_isRun_140 rfl rfl rfl rfl ?_
                    refine pE_goto (tgt := 22) dX12_isRun_143 (by decide) ?_
                    first
                    | (have hc0 : k < nI (M j).2.2.2.1 := h45
                       exact ih (j + 1) _ (by omega) (by omega) hst (skip (fun c => c.1 hc0)))
                    | (have hb : okM M (H (24 + a)) lo hi j := by
                         unfold okM
                         first
                         | (have es : (M j).1 = true := hsT
                            rw [es, if_pos rfl]
                            first
                            | (have hin : ¬ nI (M j).2.2.1 < nI lo := k1
                               have := nq_nlt (by omega) (by omega) k1
                               have := nq_nlt (by omega) (by omega) k2
                               have q3 := nq_eq (by omega) (by omega) h130
                               exact ⟨fun _ => ⟨by omega, by omega⟩, fun _ => toN1 (by omega)⟩)
                            | (have q3 := nq_eq (by omega) (by omega) h130
                               have hin : nI (M j).2.2.1 < nI lo ∨ nI hi < nI (M j).2.2.1 := kk
                               refine ⟨fun c => absurd c (toN0 (by omega)), fun c => ?_⟩
                               rcases hin with hin | hin
                               · have := nq_lt (by omega) (by omega) hin; omega
                               · have := nq_lt (by omega) (by omega) hin; omega))
                         | (have es : (M j).1 = false := hsF
                            rw [es, if_neg (by decide)]
                            have q3 := g130
                            first
                            | (have hin : (M j).2.2.1 ≤ H (24 + a) := g111
                               exact ⟨fun _ => hin, fun _ => toN1 (by omega)⟩)
                            | (have hin : H (24 + a) < (M j).2.2.1 := g111
                               exact ⟨fun c => absurd c (toN0 (by omega)), fun c => by omega⟩))
                       exact ih (j + 1) _ (by omega) (by omega) hst (good hb))
                    | (refine LF_X12_isRun hM hm30 (by omega) (h0 (bad ⟨h45, fun v hv => by rw [e] at hv; simp at hv⟩ (fun hb => ?_)))
                       unfold okM at hb
                       first
                       | (have es : (M j).1 = true := hsT
                          rw [es, if_pos rfl] at hb
                          have q3 := nq_ne (by omega) (by omega) h130
                          first
                          | (have hin : ¬ nI (M j).2.2.1 < nI lo := k1
                             have q4 := nq_nlt (by omega) (by omega) k1
                             have q5 := nq_nlt (by omega) (by omega) k2
                             have := hb.mpr ⟨q4, q5⟩
                             rw [this] at q3; simp at q3)
                          | (have hin : nI (M j).2.2.1 < nI lo ∨ nI hi < nI (M j).2.2.1 := kk
                             have := hb.mp (toN1 (by omega))
                             rcases hin with hin | hin
                             · have := nq_lt (by omega) (by omega) hin; omega
                             · have := nq_lt (by omega) (by omega) hin; omega))
                       | (have es : (M j).1 = false := hsF
                          rw [es, if_neg (by decide)] at hb
                          have q3 := g130
                          first
                          | (have hin : (M j).2.2.1 ≤ H (24 + a) := g111
                             have := hb.mpr hin
                             rw [this] at q3; simp at q3)
                          | (have hin : H (24 + a) < (M j).2.2.1 := g111
                             have := hb.mp (toN1 (by omega))
                             omega)))
                  · refine pE_iconst (v := nI 1) dX12_isRun_133 rfl ?_
                    refine pE_goto (tgt := 138) dX12_isRun_134 (by decide) ?_
                    refine pE_istore (lc' := [_, _, _, _, _, some (.int _), _, _]) dX12_isRun_138 (Nat.le_of_ble_eq_true rfl) rfl rfl ?_
                    refine pE_iincN (c0 := 1) (lc' := [_, _, _, _, _, _, some (.int _), _]) dX12_isRun_140 rfl rfl rfl rfl ?_
                    refine pE_goto (tgt := 22) dX12_isRun_143 (by decide) ?_
                    first
                    | (have hc0 : k < nI (M j).2.2.2.1 := h45
                       exact ih (j + 1) _ (by omega) (by omega) hst (skip (fun c => c.1 hc0)))
                    | (have hb : okM M (H (24 + a)) lo hi j := by
                         unfold okM
                         first
                         | (have es : (M j).1 = true := hsT
                            rw [es, if_pos rfl]
                            first
                            | (have hin : ¬ nI (M j).2.2.1 < nI lo := k1
                               have := nq_nlt (by omega) (by omega) k1
                               have := nq_nlt (by omega) (by omega) k2
                               have q3 := nq_eq (by omega) (by omega) h130
                               exact ⟨fun _ => ⟨by omega, by omega⟩, fun _ => toN1 (by omega)⟩)
                            | (have q3 := nq_eq (by omega) (by omega) h130
                               have hin : nI (M j).2.2.1 < nI lo ∨ nI hi < nI (M j).2.2.1 := kk
                               refine ⟨fun c => absurd c (toN0 (by omega)), fun c => ?_⟩
                               rcases hin with hin | hin
                               · have := nq_lt (by omega) (by omega) hin; omega
                               · have := nq_lt (by omega) (by omega) hin; omega))
                         | (have es : (M j).1 = false := hsF
                            rw [es, if_neg (by decide)]
                            have q3 := g130
                            first
                            | (have hin : (M j).2.2.1 ≤ H (24 + a) := g111
                               exact ⟨fun _ => hin, fun _ => toN1 (by omega)⟩)
                            | (have hin : H (24 + a) < (M j).2.2.1 := g111
                               exact ⟨fun c => absurd c (toN0 (by omega)), fun c => by omega⟩))
                       exact ih (j + 1) _ (by omega) (by omega) hst (good hb))
                    | (refine LF_X12_isRun hM hm30 (by omega) (h0 (bad ⟨h45, fun v hv => by rw [e] at hv; simp at hv⟩ (fun hb => ?_)))
                       unfold okM at hb
                       first
                       | (have es : (M j).1 = true := hsT
                          rw [es, if_pos rfl] at hb
                          have q3 := nq_ne (by omega) (by omega) h130
                          first
                          | (have hin : ¬ nI (M j).2.2.1 < nI lo := k1
                             have q4 := nq_nlt (by omega) (by omega) k1
                             have q5 := nq_nlt (by omega) (by omega) k2
                             have := hb.mpr ⟨q4, q5⟩
                             rw [this] at q3; simp at q3)
                          | (have hin : nI (M j).2.2.1 < nI lo ∨ nI hi < nI (M j).2.2.1 := kk
                             have := hb.mp (toN1 (by omega))
                             rcases hin with hin | hin
                             · have := nq_lt (by omega) (by omega) hin; omega
                             · have := nq_lt (by omega) (by omega) hin; omega))
                       | (have es : (M j).1 = false := hsF
                          rw [es, if_neg (by decide)] at hb
                          have q3 := g130
                          first
                          | (have hin : (M j).2.2.1 ≤ H (24 + a) := g111
                             have := hb.mpr hin
                             rw [this] at q3; simp at q3)
                          | (have hin : H (24 + a) < (M j).2.2.1 := g111
                             have := hb.mp (toN1 (by omega))
                             omega)))
                · refine pE_goto (tgt := 119) dX12_isRun_95 (by decide) ?_
                  refine pE_istore (lc' := [_, _, _, _, _, _, _, some (.int _)]) dX12_isRun_119 (Nat.le_of_ble_eq_true rfl) rfl rfl ?_
                  refine pE_iload dX12_isRun_121 rfl ?_
                  refine pE_aload_n dX12_isRun_123 rfl rfl ?_
                  refine pE_getR dX12_isRun_124 flX12_130 rfl (by first | assumption | rfl) (by first | assumption | rfl) ?_
                  refine pE_iload dX12_isRun_127 rfl ?_
                  refine pE_zaloadN dX12_isRun_129 (by first | assumption | rfl) (by first | assumption | omega) (by omega) ?_
                  rw [m2]
                  refine pE_icmp_ne (tgt := 137) dX12_isRun_130 (by decide) (fun h130 => ?_) (fun h130 => ?_)
                  · refine pE_iconst (v := nI 0) dX12_isRun_137 rfl ?_
                    refine pE_istore (lc' := [_, _, _, _, _, some (.int _), _, _]) dX12_isRun_138 (Nat.le_of_ble_eq_true rfl) rfl rfl ?_
                    refine pE_iincN (c0 := 1) (lc' := [_, _, _, _, _, _, some (.int _), _]) dX12_isRun_140 rfl rfl rfl rfl ?_
                    refine pE_goto (tgt := 22) dX12_isRun_143 (by decide) ?_
                    first
                    | (have hc0 : k < nI (M j).2.2.2.1 := h45
                       exact ih (j + 1) _ (by omega) (by omega) hst (skip (fun c => c.1 hc0)))
                    | (have hb : okM M (H (24 + a)) lo hi j := by
                         unfold okM
                         first
                         | (have es : (M j).1 = true := hsT
                            rw [es, if_pos rfl]
                            first
                            | (have hin : ¬ nI (M j).2.2.1 < nI lo := k1
                               have := nq_nlt (by omega) (by omega) k1
                               have := nq_nlt (by omega) (by omega) k2
                               have q3 := nq_eq (by omega) (by omega) h130
                               exact ⟨fun _ => ⟨by omega, by omega⟩, fun _ => toN1 (by omega)⟩)
                            | (have q3 := nq_eq (by omega) (by omega) h130
                               have hin : nI (M j).2.2.1 < nI lo ∨ nI hi < nI (M j).2.2.1 := kk
                               refine ⟨fun c => absurd c (toN0 (by omega)), fun c => ?_⟩
                               rcases hin with hin | hin
                               · have := nq_lt (by omega) (by omega) hin; omega
                               · have := nq_lt (by omega) (by omega) hin; omega))
                         | (have es : (M j).1 = false := hsF
                            rw [es, if_neg (by decide)]
                            have q3 := g130
                            first
                            | (have hin : (M j).2.2.1 ≤ H (24 + a) := g111
                               exact ⟨fun _ => hin, fun _ => toN1 (by omega)⟩)
                            | (have hin : H (24 + a) < (M j).2.2.1 := g111
                               exact ⟨fun c => absurd c (toN0 (by omega)), fun c => by omega⟩))
                       exact ih (j + 1) _ (by omega) (by omega) hst (good hb))
                    | (refine LF_X12_isRun hM hm30 (by omega) (h0 (bad ⟨h45, fun v hv => by rw [e] at hv; simp at hv⟩ (fun hb => ?_)))
                       unfold okM at hb
                       first
                       | (have es : (M j).1 = true := hsT
                          rw [es, if_pos rfl] at hb
                          have q3 := nq_ne (by omega) (by omega) h130
                          first
                          | (have hin : ¬ nI (M j).2.2.1 < nI lo := k1
                             have q4 := nq_nlt (by omega) (by omega) k1
                             have q5 := nq_nlt (by omega) (by omega) k2
                             have := hb.mpr ⟨q4, q5⟩
                             rw [this] at q3; simp at q3)
                          | (have hin : nI (M j).2.2.1 < nI lo ∨ nI hi < nI (M j).2.2.1 := kk
                             have := hb.mp (toN1 (by omega))
                             rcases hin with hin | hin
                             · have := nq_lt (by omega) (by omega) hin; omega
                             · have := nq_lt (by omega) (by omega) hin; omega))
                       | (have es : (M j).1 = false := hsF
                          rw [es, if_neg (by decide)] at hb
                          have q3 := g130
                          first
                          | (have hin : (M j).2.2.1 ≤ H (24 + a) := g111
                             have := hb.mpr hin
                             rw [this] at q3; simp at q3)
                          | (have hin : H (24 + a) < (M j).2.2.1 := g111
                             have := hb.mp (toN1 (by omega))
                             omega)))
                  · refine pE_iconst (v := nI 1) dX12_isRun_133 rfl ?_
                    refine pE_goto (tgt := 138) dX12_isRun_134 (by decide) ?_
                    refine pE_istore (lc' := [_, _, _, _, _, some (.int _), _, _]) dX12_isRun_138 (Nat.le_of_ble_eq_true rfl) rfl rfl ?_
                    refine pE_iincN (c0 := 1) (lc' := [_, _, _, _, _, _, some (.int _), _]) dX12_isRun_140 rfl rfl rfl rfl ?_
                    refine pE_goto (tgt := 22) dX12_isRun_143 (by decide) ?_
                    first
                    | (have hc0 : k < nI (M j).2.2.2.1 := h45
                       exact ih (j + 1) _ (by omega) (by omega) hst (skip (fun c => c.1 hc0)))
                    | (have hb : okM M (H (24 + a)) lo hi j := by
                         unfold okM
                         first
                         | (have es : (M j).1 = true := hsT
                            rw [es, if_pos rfl]
                            first
                            | (have hin : ¬ nI (M j).2.2.1 < nI lo := k1
                               have := nq_nlt (by omega) (by omega) k1
                               have := nq_nlt (by omega) (by omega) k2
                               have q3 := nq_eq (by omega) (by omega) h130
                               exact ⟨fun _ => ⟨by omega, by omega⟩, fun _ => toN1 (by omega)⟩)
                            | (have q3 := nq_eq (by omega) (by omega) h130
                               have hin : nI (M j).2.2.1 < nI lo ∨ nI hi < nI (M j).2.2.1 := kk
                               refine ⟨fun c => absurd c (toN0 (by omega)), fun c => ?_⟩
                               rcases hin with hin | hin
                               · have := nq_lt (by omega) (by omega) hin; omega
                               · have := nq_lt (by omega) (by omega) hin; omega))
                         | (have es : (M j).1 = false := hsF
                            rw [es, if_neg (by decide)]
                            have q3 := g130
                            first
                            | (have hin : (M j).2.2.1 ≤ H (24 + a) := g111
                               exact ⟨fun _ => hin, fun _ => toN1 (by omega)⟩)
                            | (have hin : H (24 + a) < (M j).2.2.1 := g111
                               exact ⟨fun c => absurd c (toN0 (by omega)), fun c => by omega⟩))
                       exact ih (j + 1) _ (by omega) (by omega) hst (good hb))
                    | (refine LF_X12_isRun hM hm30 (by omega) (h0 (bad ⟨h45, fun v hv => by rw [e] at hv; simp at hv⟩ (fun hb => ?_)))
                       unfold okM at hb
                       first
                       | (have es : (M j).1 = true := hsT
                          rw [es, if_pos rfl] at hb
                          have q3 := nq_ne (by omega) (by omega) h130
                          first
                          | (have hin : ¬ nI (M j).2.2.1 < nI lo := k1
                             have q4 := nq_nlt (by omega) (by omega) k1
                             have q5 := nq_nlt (by omega) (by omega) k2
                             have := hb.mpr ⟨q4, q5⟩
                             rw [this] at q3; simp at q3)
                          | (have hin : nI (M j).2.2.1 < nI lo ∨ nI hi < nI (M j).2.2.1 := kk
                             have := hb.mp (toN1 (by omega))
                             rcases hin with hin | hin
                             · have := nq_lt (by omega) (by omega) hin; omega
                             · have := nq_lt (by omega) (by omega) hin; omega))
                       | (have es : (M j).1 = false := hsF
                          rw [es, if_neg (by decide)] at hb
                          have q3 := g130
                          first
                          | (have hin : (M j).2.2.1 ≤ H (24 + a) := g111
                             have := hb.mpr hin
                             rw [this] at q3; simp at q3)
                          | (have hin : H (24 + a) < (M j).2.2.1 := g111
                             have := hb.mp (toN1 (by omega))
                             omega)))
            · exact absurd m1_lt0 h55
        | some v =>
          have hv5 := hr3.2.2.2 v e
          refine pE_aload_n dX12_isRun_36 rfl rfl ?_
          refine pE_getR dX12_isRun_37 flX12_124 rfl (by first | assumption | rfl) (by first | assumption | rfl) ?_
          refine pE_iload dX12_isRun_40 rfl ?_
          refine pE_ialoadN dX12_isRun_42 (by first | assumption | rfl) (by first | assumption | omega) (by omega) ?_
          rw [m4]
          refine pE_iload dX12_isRun_43 rfl ?_
          refine pE_icmp_gt (tgt := 140) dX12_isRun_45 (by decide) (fun h45 => ?_) (fun h45 => ?_)
          · refine pE_iincN (c0 := 1) (lc' := [_, _, _, _, _, _, some (.int _), _]) dX12_isRun_140 rfl rfl rfl rfl ?_
            refine pE_goto (tgt := 22) dX12_isRun_143 (by decide) ?_
            first
            | (have hc0 : k < nI (M j).2.2.2.1 := h45
               exact ih (j + 1) _ (by omega) (by omega) hst (skip (fun c => c.1 hc0)))
            | (have hc1 : ¬ k < nI v := h67
               exact ih (j + 1) _ (by omega) (by omega) hst (skip (fun c => c.2 v e (Int32.not_lt.mp hc1))))
            | (have hb : okM M (H (24 + a)) lo hi j := by
                 unfold okM
                 first
                 | (have es : (M j).1 = true := hsT
                    rw [es, if_pos rfl]
                    first
                    | (have hin : ¬ nI (M j).2.2.1 < nI lo := k1
                       have := nq_nlt (by omega) (by omega) k1
                       have := nq_nlt (by omega) (by omega) k2
                       have q3 := nq_eq (by omega) (by omega) h130
                       exact ⟨fun _ => ⟨by omega, by omega⟩, fun _ => toN1 (by omega)⟩)
                    | (have q3 := nq_eq (by omega) (by omega) h130
                       have hin : nI (M j).2.2.1 < nI lo ∨ nI hi < nI (M j).2.2.1 := kk
                       refine ⟨fun c => absurd c (toN0 (by omega)), fun c => ?_⟩
                       rcases hin with hin | hin
                       · have := nq_lt (by omega) (by omega) hin; omega
                       · have := nq_lt (by omega) (by omega) hin; omega))
                 | (have es : (M j).1 = false := hsF
                    rw [es, if_neg (by decide)]
                    have q3 := g130
                    first
                    | (have hin : (M j).2.2.1 ≤ H (24 + a) := g111
                       exact ⟨fun _ => hin, fun _ => toN1 (by omega)⟩)
                    | (have hin : H (24 + a) < (M j).2.2.1 := g111
                       exact ⟨fun c => absurd c (toN0 (by omega)), fun c => by omega⟩))
               exact ih (j + 1) _ (by omega) (by omega) hst (good hb))
            | (refine LF_X12_isRun hM hm30 (by omega) (h0 (bad ⟨h45, fun v2 hv => by rw [e] at hv; cases hv; exact Int32.not_le.mpr h67⟩ (fun hb => ?_)))
               unfold okM at hb
               first
               | (have es : (M j).1 = true := hsT
                  rw [es, if_pos rfl] at hb
                  have q3 := nq_ne (by omega) (by omega) h130
                  first
                  | (have hin : ¬ nI (M j).2.2.1 < nI lo := k1
                     have q4 := nq_nlt (by omega) (by omega) k1
                     have q5 := nq_nlt (by omega) (by omega) k2
                     have := hb.mpr ⟨q4, q5⟩
                     rw [this] at q3; simp at q3)
                  | (have hin : nI (M j).2.2.1 < nI lo ∨ nI hi < nI (M j).2.2.1 := kk
                     have := hb.mp (toN1 (by omega))
                     rcases hin with hin | hin
                     · have := nq_lt (by omega) (by omega) hin; omega
                     · have := nq_lt (by omega) (by omega) hin; omega))
               | (have es : (M j).1 = false := hsF
                  rw [es, if_neg (by decide)] at hb
                  have q3 := g130
                  first
                  | (have hin : (M j).2.2.1 ≤ H (24 + a) := g111
                     have := hb.mpr hin
                     rw [this] at q3; simp at q3)
                  | (have hin : H (24 + a) < (M j).2.2.1 := g111
                     have := hb.mp (toN1 (by omega))
                     omega)))
          · refine pE_aload_n dX12_isRun_48 rfl rfl ?_
            refine pE_getR dX12_isRun_49 flX12_127 rfl (by first | assumption | rfl) (by first | assumption | rfl) ?_
            refine pE_iload dX12_isRun_52 rfl ?_
            refine pE_ialoadN dX12_isRun_54 (by first | assumption | rfl) (by first | assumption | omega) (by omega) ?_
            rw [m5, e, show oI (some v) = nI v from rfl]
            refine pE_if_lt (tgt := 73) dX12_isRun_55 (by decide) (fun h55 => ?_) (fun h55 => ?_)
            · exact absurd h55 (nI_pos (by omega))
            · refine pE_aload_n dX12_isRun_58 rfl rfl ?_
              refine pE_getR dX12_isRun_59 flX12_127 rfl (by first | assumption | rfl) (by first | assumption | rfl) ?_
              refine pE_iload dX12_isRun_62 rfl ?_
              refine pE_ialoadN dX12_isRun_64 (by first | assumption | rfl) (by first | assumption | omega) (by omega) ?_
              rw [m5, e, show oI (some v) = nI v from rfl]
              refine pE_iload dX12_isRun_65 rfl ?_
              refine pE_icmp_gt (tgt := 73) dX12_isRun_67 (by decide) (fun h67 => ?_) (fun h67 => ?_)
              · refine pE_aload_n dX12_isRun_73 rfl rfl ?_
                refine pE_getR dX12_isRun_74 flX12_118 rfl (by first | assumption | rfl) (by first | assumption | rfl) ?_
                refine pE_iload dX12_isRun_77 rfl ?_
                refine pE_ialoadN dX12_isRun_79 (by first | assumption | rfl) (by first | assumption | omega) (by omega) ?_
                rw [m1]
                refine pE_if_ne (tgt := 98) dX12_isRun_80 (by decide) (fun h80 => ?_) (fun h80 => ?_)
                · have g80 := nq_ne0 (by omega) h80
                  have hsF : (M j).1 = false := by cases e8 : (M j).1 with
                    | false => rfl
                    | true => rw [e8] at g80; simp at g80
                  refine pE_aload_n dX12_isRun_98 rfl rfl ?_
                  refine pE_getR dX12_isRun_99 flX12_73 rfl (by first | assumption | rfl) (by first | assumption | rfl) ?_
                  refine pE_iload_n dX12_isRun_102 rfl rfl ?_
                  refine pE_ialoadN dX12_isRun_103 (by first | assumption | rfl) (by first | assumption | omega) (by omega) ?_
                  rw [(hH.2.2.2 a ha).2.2.1]
                  refine pE_aload_n dX12_isRun_104 rfl rfl ?_
                  refine pE_getR dX12_isRun_105 flX12_121 rfl (by first | assumption | rfl) (by first | assumption | rfl) ?_
                  refine pE_iload dX12_isRun_108 rfl ?_
                  refine pE_ialoadN dX12_isRun_110 (by first | assumption | rfl) (by first | assumption | omega) (by omega) ?_
                  rw [m3]
                  refine pE_icmp_lt (tgt := 118) dX12_isRun_111 (by decide) (fun h111 => ?_) (fun h111 => ?_)
                  · have g111 := nq_lt (by omega) (by omega) h111
                    refine pE_iconst (v := nI 0) dX12_isRun_118 rfl ?_
                    refine pE_istore (lc' := [_, _, _, _, _, _, _, some (.int _)]) dX12_isRun_119 (Nat.le_of_ble_eq_true rfl) rfl rfl ?_
                    refine pE_iload dX12_isRun_121 rfl ?_
                    refine pE_aload_n dX12_isRun_123 rfl rfl ?_
                    refine pE_getR dX12_isRun_124 flX12_130 rfl (by first | assumption | rfl) (by first | assumption | rfl) ?_
                    refine pE_iload dX12_isRun_127 rfl ?_
                    refine pE_zaloadN dX12_isRun_129 (by first | assumption | rfl) (by first | assumption | omega) (by omega) ?_
                    rw [m2]
                    refine pE_icmp_ne (tgt := 137) dX12_isRun_130 (by decide) (fun h130 => ?_) (fun h130 => ?_)
                    · have g130 := nq_ne (by omega) (by omega) h130
                      refine pE_iconst (v := nI 0) dX12_isRun_137 rfl ?_
                      refine pE_istore (lc' := [_, _, _, _, _, some (.int _), _, _]) dX12_isRun_138 (Nat.le_of_ble_eq_true rfl) rfl rfl ?_
                      refine pE_iincN (c0 := 1) (lc' := [_, _, _, _, _, _, some (.int _), _]) dX12_isRun_140 rfl rfl rfl rfl ?_
                      refine pE_goto (tgt := 22) dX12_isRun_143 (by decide) ?_
                      first
                      | (have hc0 : k < nI (M j).2.2.2.1 := h45
                         exact ih (j + 1) _ (by omega) (by omega) hst (skip (fun c => c.1 hc0)))
                      | (have hc1 : ¬ k < nI v := h67
                         exact ih (j + 1) _ (by omega) (by omega) hst (skip (fun c => c.2 v e (Int32.not_lt.mp hc1))))
                      | (have hb : okM M (H (24 + a)) lo hi j := by
                           unfold okM
                           first
                           | (have es : (M j).1 = true := hsT
                              rw [es, if_pos rfl]
                              first
                              | (have hin : ¬ nI (M j).2.2.1 < nI lo := k1
                                 have := nq_nlt (by omega) (by omega) k1
                                 have := nq_nlt (by omega) (by omega) k2
                                 have q3 := nq_eq (by omega) (by omega) h130
                                 exact ⟨fun _ => ⟨by omega, by omega⟩, fun _ => toN1 (by omega)⟩)
                              | (have q3 := nq_eq (by omega) (by omega) h130
                                 have hin : nI (M j).2.2.1 < nI lo ∨ nI hi < nI (M j).2.2.1 := kk
                                 refine ⟨fun c => absurd c (toN0 (by omega)), fun c => ?_⟩
                                 rcases hin with hin | hin
                                 · have := nq_lt (by omega) (by omega) hin; omega
                                 · have := nq_lt (by omega) (by omega) hin; omega))
                           | (have es : (M j).1 = false := hsF
                              rw [es, if_neg (by decide)]
                              have q3 := g130
                              first
                              | (have hin : (M j).2.2.1 ≤ H (24 + a) := g111
                                 exact ⟨fun _ => hin, fun _ => toN1 (by omega)⟩)
                              | (have hin : H (24 + a) < (M j).2.2.1 := g111
                                 exact ⟨fun c => absurd c (toN0 (by omega)), fun c => by omega⟩))
                         exact ih (j + 1) _ (by omega) (by omega) hst (good hb))
                      | (refine LF_X12_isRun hM hm30 (by omega) (h0 (bad ⟨h45, fun v2 hv => by rw [e] at hv; cases hv; exact Int32.not_le.mpr h67⟩ (fun hb => ?_)))
                         unfold okM at hb
                         first
                         | (have es : (M j).1 = true := hsT
                            rw [es, if_pos rfl] at hb
                            have q3 := nq_ne (by omega) (by omega) h130
                            first
                            | (have hin : ¬ nI (M j).2.2.1 < nI lo := k1
                               have q4 := nq_nlt (by omega) (by omega) k1
                               have q5 := nq_nlt (by omega) (by omega) k2
                               have := hb.mpr ⟨q4, q5⟩
                               rw [this] at q3; simp at q3)
                            | (have hin : nI (M j).2.2.1 < nI lo ∨ nI hi < nI (M j).2.2.1 := kk
                               have := hb.mp (toN1 (by omega))
                               rcases hin with hin | hin
                               · have := nq_lt (by omega) (by omega) hin; omega
                               · have := nq_lt (by omega) (by omega) hin; omega))
                         | (have es : (M j).1 = false := hsF
                            rw [es, if_neg (by decide)] at hb
                            have q3 := g130
                            first
                            | (have hin : (M j).2.2.1 ≤ H (24 + a) := g111
                               have := hb.mpr hin
                               rw [this] at q3; simp at q3)
                            | (have hin : H (24 + a) < (M j).2.2.1 := g111
                               have := hb.mp (toN1 (by omega))
                               omega)))
                    · have g130 := nq_eq (by omega) (by omega) h130
                      refine pE_iconst (v := nI 1) dX12_isRun_133 rfl ?_
                      refine pE_goto (tgt := 138) dX12_isRun_134 (by decide) ?_
                      refine pE_istore (lc' := [_, _, _, _, _, some (.int _), _, _]) dX12_isRun_138 (Nat.le_of_ble_eq_true rfl) rfl rfl ?_
                      refine pE_iincN (c0 := 1) (lc' := [_, _, _, _, _, _, some (.int _), _]) dX12_isRun_140 rfl rfl rfl rfl ?_
                      refine pE_goto (tgt := 22) dX12_isRun_143 (by decide) ?_
                      first
                      | (have hc0 : k < nI (M j).2.2.2.1 := h45
                         exact ih (j + 1) _ (by omega) (by omega) hst (skip (fun c => c.1 hc0)))
                      | (have hc1 : ¬ k < nI v := h67
                         exact ih (j + 1) _ (by omega) (by omega) hst (skip (fun c => c.2 v e (Int32.not_lt.mp hc1))))
                      | (have hb : okM M (H (24 + a)) lo hi j := by
                           unfold okM
                           first
                           | (have es : (M j).1 = true := hsT
                              rw [es, if_pos rfl]
                              first
                              | (have hin : ¬ nI (M j).2.2.1 < nI lo := k1
                                 have := nq_nlt (by omega) (by omega) k1
                                 have := nq_nlt (by omega) (by omega) k2
                                 have q3 := nq_eq (by omega) (by omega) h130
                                 exact ⟨fun _ => ⟨by omega, by omega⟩, fun _ => toN1 (by omega)⟩)
                              | (have q3 := nq_eq (by omega) (by omega) h130
                                 have hin : nI (M j).2.2.1 < nI lo ∨ nI hi < nI (M j).2.2.1 := kk
                                 refine ⟨fun c => absurd c (toN0 (by omega)), fun c => ?_⟩
                                 rcases hin with hin | hin
                                 · have := nq_lt (by omega) (by omega) hin; omega
                                 · have := nq_lt (by omega) (by omega) hin; omega))
                           | (have es : (M j).1 = false := hsF
                              rw [es, if_neg (by decide)]
                              have q3 := g130
                              first
                              | (have hin : (M j).2.2.1 ≤ H (24 + a) := g111
                                 exact ⟨fun _ => hin, fun _ => toN1 (by omega)⟩)
                              | (have hin : H (24 + a) < (M j).2.2.1 := g111
                                 exact ⟨fun c => absurd c (toN0 (by omega)), fun c => by omega⟩))
                         exact ih (j + 1) _ (by omega) (by omega) hst (good hb))
                      | (refine LF_X12_isRun hM hm30 (by omega) (h0 (bad ⟨h45, fun v2 hv => by rw [e] at hv; cases hv; exact Int32.not_le.mpr h67⟩ (fun hb => ?_)))
                         unfold okM at hb
                         first
                         | (have es : (M j).1 = true := hsT
                            rw [es, if_pos rfl] at hb
                            have q3 := nq_ne (by omega) (by omega) h130
                            first
                            | (have hin : ¬ nI (M j).2.2.1 < nI lo := k1
                               have q4 := nq_nlt (by omega) (by omega) k1
                               have q5 := nq_nlt (by omega) (by omega) k2
                               have := hb.mpr ⟨q4, q5⟩
                               rw [this] at q3; simp at q3)
                            | (have hin : nI (M j).2.2.1 < nI lo ∨ nI hi < nI (M j).2.2.1 := kk
                               have := hb.mp (toN1 (by omega))
                               rcases hin with hin | hin
                               · have := nq_lt (by omega) (by omega) hin; omega
                               · have := nq_lt (by omega) (by omega) hin; omega))
                         | (have es : (M j).1 = false := hsF
                            rw [es, if_neg (by decide)] at hb
                            have q3 := g130
                            first
                            | (have hin : (M j).2.2.1 ≤ H (24 + a) := g111
                               have := hb.mpr hin
                               rw [this] at q3; simp at q3)
                            | (have hin : H (24 + a) < (M j).2.2.1 := g111
                               have := hb.mp (toN1 (by omega))
                               omega)))
                  · have g111 := nq_nlt (by omega) (by omega) h111
                    refine pE_iconst (v := nI 1) dX12_isRun_114 rfl ?_
                    refine pE_goto (tgt := 119) dX12_isRun_115 (by decide) ?_
                    refine pE_istore (lc' := [_, _, _, _, _, _, _, some (.int _)]) dX12_isRun_119 (Nat.le_of_ble_eq_true rfl) rfl rfl ?_
                    refine pE_iload dX12_isRun_121 rfl ?_
                    refine pE_aload_n dX12_isRun_123 rfl rfl ?_
                    refine pE_getR dX12_isRun_124 flX12_130 rfl (by first | assumption | rfl) (by first | assumption | rfl) ?_
                    refine pE_iload dX12_isRun_127 rfl ?_
                    refine pE_zaloadN dX12_isRun_129 (by first | assumption | rfl) (by first | assumption | omega) (by omega) ?_
                    rw [m2]
                    refine pE_icmp_ne (tgt := 137) dX12_isRun_130 (by decide) (fun h130 => ?_) (fun h130 => ?_)
                    · have g130 := nq_ne (by omega) (by omega) h130
                      refine pE_iconst (v := nI 0) dX12_isRun_137 rfl ?_
                      refine pE_istore (lc' := [_, _, _, _, _, some (.int _), _, _]) dX12_isRun_138 (Nat.le_of_ble_eq_true rfl) rfl rfl ?_
                      refine pE_iincN (c0 := 1) (lc' := [_, _, _, _, _, _, some (.int _), _]) dX12_isRun_140 rfl rfl rfl rfl ?_
                      refine pE_goto (tgt := 22) dX12_isRun_143 (by decide) ?_
                      first
                      | (have hc0 : k < nI (M j).2.2.2.1 := h45
                         exact ih (j + 1) _ (by omega) (by omega) hst (skip (fun c => c.1 hc0)))
                      | (have hc1 : ¬ k < nI v := h67
                         exact ih (j + 1) _ (by omega) (by omega) hst (skip (fun c => c.2 v e (Int32.not_lt.mp hc1))))
                      | (have hb : okM M (H (24 + a)) lo hi j := by
                           unfold okM
                           first
                           | (have es : (M j).1 = true := hsT
                              rw [es, if_pos rfl]
                              first
                              | (have hin : ¬ nI (M j).2.2.1 < nI lo := k1
                                 have := nq_nlt (by omega) (by omega) k1
                                 have := nq_nlt (by omega) (by omega) k2
                                 have q3 := nq_eq (by omega) (by omega) h130
                                 exact ⟨fun _ => ⟨by omega, by omega⟩, fun _ => toN1 (by omega)⟩)
                              | (have q3 := nq_eq (by omega) (by omega) h130
                                 have hin : nI (M j).2.2.1 < nI lo ∨ nI hi < nI (M j).2.2.1 := kk
                                 refine ⟨fun c => absurd c (toN0 (by omega)), fun c => ?_⟩
                                 rcases hin with hin | hin
                                 · have := nq_lt (by omega) (by omega) hin; omega
                                 · have := nq_lt (by omega) (by omega) hin; omega))
                           | (have es : (M j).1 = false := hsF
                              rw [es, if_neg (by decide)]
                              have q3 := g130
                              first
                              | (have hin : (M j).2.2.1 ≤ H (24 + a) := g111
                                 exact ⟨fun _ => hin, fun _ => toN1 (by omega)⟩)
                              | (have hin : H (24 + a) < (M j).2.2.1 := g111
                                 exact ⟨fun c => absurd c (toN0 (by omega)), fun c => by omega⟩))
                         exact ih (j + 1) _ (by omega) (by omega) hst (good hb))
                      | (refine LF_X12_isRun hM hm30 (by omega) (h0 (bad ⟨h45, fun v2 hv => by rw [e] at hv; cases hv; exact Int32.not_le.mpr h67⟩ (fun hb => ?_)))
                         unfold okM at hb
                         first
                         | (have es : (M j).1 = true := hsT
                            rw [es, if_pos rfl] at hb
                            have q3 := nq_ne (by omega) (by omega) h130
                            first
                            | (have hin : ¬ nI (M j).2.2.1 < nI lo := k1
                               have q4 := nq_nlt (by omega) (by omega) k1
                               have q5 := nq_nlt (by omega) (by omega) k2
                               have := hb.mpr ⟨q4, q5⟩
                               rw [this] at q3; simp at q3)
                            | (have hin : nI (M j).2.2.1 < nI lo ∨ nI hi < nI (M j).2.2.1 := kk
                               have := hb.mp (toN1 (by omega))
                               rcases hin with hin | hin
                               · have := nq_lt (by omega) (by omega) hin; omega
                               · have := nq_lt (by omega) (by omega) hin; omega))
                         | (have es : (M j).1 = false := hsF
                            rw [es, if_neg (by decide)] at hb
                            have q3 := g130
                            first
                            | (have hin : (M j).2.2.1 ≤ H (24 + a) := g111
                               have := hb.mpr hin
                               rw [this] at q3; simp at q3)
                            | (have hin : H (24 + a) < (M j).2.2.1 := g111
                               have := hb.mp (toN1 (by omega))
                               omega)))
                    · have g130 := nq_eq (by omega) (by omega) h130
                      refine pE_iconst (v := nI 1) dX12_isRun_133 rfl ?_
                      refine pE_goto (tgt := 138) dX12_isRun_134 (by decide) ?_
                      refine pE_istore (lc' := [_, _, _, _, _, some (.int _), _, _]) dX12_isRun_138 (Nat.le_of_ble_eq_true rfl) rfl rfl ?_
                      refine pE_iincN (c0 := 1) (lc' := [_, _, _, _, _, _, some (.int _), _]) dX12_isRun_140 rfl rfl rfl rfl ?_
                      refine pE_goto (tgt := 22) dX12_isRun_143 (by decide) ?_
                      first
                      | (have hc0 : k < nI (M j).2.2.2.1 := h45
                         exact ih (j + 1) _ (by omega) (by omega) hst (skip (fun c => c.1 hc0)))
                      | (have hc1 : ¬ k < nI v := h67
                         exact ih (j + 1) _ (by omega) (by omega) hst (skip (fun c => c.2 v e (Int32.not_lt.mp hc1))))
                      | (have hb : okM M (H (24 + a)) lo hi j := by
                           unfold okM
                           first
                           | (have es : (M j).1 = true := hsT
                              rw [es, if_pos rfl]
                              first
                              | (have hin : ¬ nI (M j).2.2.1 < nI lo := k1
                                 have := nq_nlt (by omega) (by omega) k1
                                 have := nq_nlt (by omega) (by omega) k2
                                 have q3 := nq_eq (by omega) (by omega) h130
                                 exact ⟨fun _ => ⟨by omega, by omega⟩, fun _ => toN1 (by omega)⟩)
                              | (have q3 := nq_eq (by omega) (by omega) h130
                                 have hin : nI (M j).2.2.1 < nI lo ∨ nI hi < nI (M j).2.2.1 := kk
                                 refine ⟨fun c => absurd c (toN0 (by omega)), fun c => ?_⟩
                                 rcases hin with hin | hin
                                 · have := nq_lt (by omega) (by omega) hin; omega
                                 · have := nq_lt (by omega) (by omega) hin; omega))
                           | (have es : (M j).1 = false := hsF
                              rw [es, if_neg (by decide)]
                              have q3 := g130
                              first
                              | (have hin : (M j).2.2.1 ≤ H (24 + a) := g111
                                 exact ⟨fun _ => hin, fun _ => toN1 (by omega)⟩)
                              | (have hin : H (24 + a) < (M j).2.2.1 := g111
                                 exact ⟨fun c => absurd c (toN0 (by omega)), fun c => by omega⟩))
                         exact ih (j + 1) _ (by omega) (by omega) hst (good hb))
                      | (refine LF_X12_isRun hM hm30 (by omega) (h0 (bad ⟨h45, fun v2 hv => by rw [e] at hv; cases hv; exact Int32.not_le.mpr h67⟩ (fun hb => ?_)))
                         unfold okM at hb
                         first
                         | (have es : (M j).1 = true := hsT
                            rw [es, if_pos rfl] at hb
                            have q3 := nq_ne (by omega) (by omega) h130
                            first
                            | (have hin : ¬ nI (M j).2.2.1 < nI lo := k1
                               have q4 := nq_nlt (by omega) (by omega) k1
                               have q5 := nq_nlt (by omega) (by omega) k2
                               have := hb.mpr ⟨q4, q5⟩
                               rw [this] at q3; simp at q3)
                            | (have hin : nI (M j).2.2.1 < nI lo ∨ nI hi < nI (M j).2.2.1 := kk
                               have := hb.mp (toN1 (by omega))
                               rcases hin with hin | hin
                               · have := nq_lt (by omega) (by omega) hin; omega
                               · have := nq_lt (by omega) (by omega) hin; omega))
                         | (have es : (M j).1 = false := hsF
                            rw [es, if_neg (by decide)] at hb
                            have q3 := g130
                            first
                            | (have hin : (M j).2.2.1 ≤ H (24 + a) := g111
                               have := hb.mpr hin
                               rw [this] at q3; simp at q3)
                            | (have hin : H (24 + a) < (M j).2.2.1 := g111
                               have := hb.mp (toN1 (by omega))
                               omega)))
                · have g80 := nq_eq0 (by omega) h80
                  have hsT : (M j).1 = true := by cases e8 : (M j).1 with
                    | true => rfl
                    | false => rw [e8] at g80; simp at g80
                  refine pE_aload_n dX12_isRun_83 rfl rfl ?_
                  refine pE_getR dX12_isRun_84 flX12_121 rfl (by first | assumption | rfl) (by first | assumption | rfl) ?_
                  refine pE_iload dX12_isRun_87 rfl ?_
                  refine pE_ialoadN dX12_isRun_89 (by first | assumption | rfl) (by first | assumption | omega) (by omega) ?_
                  rw [m3]
                  refine pE_iload_n dX12_isRun_90 rfl rfl ?_
                  refine pE_iload_n dX12_isRun_91 rfl rfl ?_
                  refine pE_callS (d' := 0) (as := [_, _, _]) dX12_isRun_92 lkX12_368 (cwX12_isIn _ _) svX12_isIn rfl rfl (Nat.le_of_ble_eq_true rfl) (by decide) pKK ?_
                  refine M_X12_isIn  (fun k1 k2 => ?_) (fun kk => ?_)
                  · refine pE_goto (tgt := 119) dX12_isRun_95 (by decide) ?_
                    refine pE_istore (lc' := [_, _, _, _, _, _, _, some (.int _)]) dX12_isRun_119 (Nat.le_of_ble_eq_true rfl) rfl rfl ?_
                    refine pE_iload dX12_isRun_121 rfl ?_
                    refine pE_aload_n dX12_isRun_123 rfl rfl ?_
                    refine pE_getR dX12_isRun_124 flX12_130 rfl (by first | assumption | rfl) (by first | assumption | rfl) ?_
                    refine pE_iload dX12_isRun_127 rfl ?_
                    refine pE_zaloadN dX12_isRun_129 (by first | assumption | rfl) (by first | assumption | omega) (by omega) ?_
                    rw [m2]
                    refine pE_icmp_ne (tgt := 137) dX12_isRun_130 (by decide) (fun h130 => ?_) (fun h130 => ?_)
                    · refine pE_iconst (v := nI 0) dX12_isRun_137 rfl ?_
                      refine pE_istore (lc' := [_, _, _, _, _, some (.int _), _, _]) dX12_isRun_138 (Nat.le_of_ble_eq_true rfl) rfl rfl ?_
                      refine pE_iincN (c0 := 1) (lc' := [_, _, _, _, _, _, some (.int _), _]) dX12_isRun_140 rfl rfl rfl rfl ?_
                      refine pE_goto (tgt := 22) dX12_isRun_143 (by decide) ?_
                      first
                      | (have hc0 : k < nI (M j).2.2.2.1 := h45
                         exact ih (j + 1) _ (by omega) (by omega) hst (skip (fun c => c.1 hc0)))
                      | (have hc1 : ¬ k < nI v := h67
                         exact ih (j + 1) _ (by omega) (by omega) hst (skip (fun c => c.2 v e (Int32.not_lt.mp hc1))))
                      | (have hb : okM M (H (24 + a)) lo hi j := by
                           unfold okM
                           first
                           | (have es : (M j).1 = true := hsT
                              rw [es, if_pos rfl]
                              first
                              | (have hin : ¬ nI (M j).2.2.1 < nI lo := k1
                                 have := nq_nlt (by omega) (by omega) k1
                                 have := nq_nlt (by omega) (by omega) k2
                                 have q3 := nq_eq (by omega) (by omega) h130
                                 exact ⟨fun _ => ⟨by omega, by omega⟩, fun _ => toN1 (by omega)⟩)
                              | (have q3 := nq_eq (by omega) (by omega) h130
                                 have hin : nI (M j).2.2.1 < nI lo ∨ nI hi < nI (M j).2.2.1 := kk
                                 refine ⟨fun c => absurd c (toN0 (by omega)), fun c => ?_⟩
                                 rcases hin with hin | hin
                                 · have := nq_lt (by omega) (by omega) hin; omega
                                 · have := nq_lt (by omega) (by omega) hin; omega))
                           | (have es : (M j).1 = false := hsF
                              rw [es, if_neg (by decide)]
                              have q3 := g130
                              first
                              | (have hin : (M j).2.2.1 ≤ H (24 + a) := g111
                                 exact ⟨fun _ => hin, fun _ => toN1 (by omega)⟩)
                              | (have hin : H (24 + a) < (M j).2.2.1 := g111
                                 exact ⟨fun c => absurd c (toN0 (by omega)), fun c => by omega⟩))
                         exact ih (j + 1) _ (by omega) (by omega) hst (good hb))
                      | (refine LF_X12_isRun hM hm30 (by omega) (h0 (bad ⟨h45, fun v2 hv => by rw [e] at hv; cases hv; exact Int32.not_le.mpr h67⟩ (fun hb => ?_)))
                         unfold okM at hb
                         first
                         | (have es : (M j).1 = true := hsT
                            rw [es, if_pos rfl] at hb
                            have q3 := nq_ne (by omega) (by omega) h130
                            first
                            | (have hin : ¬ nI (M j).2.2.1 < nI lo := k1
                               have q4 := nq_nlt (by omega) (by omega) k1
                               have q5 := nq_nlt (by omega) (by omega) k2
                               have := hb.mpr ⟨q4, q5⟩
                               rw [this] at q3; simp at q3)
                            | (have hin : nI (M j).2.2.1 < nI lo ∨ nI hi < nI (M j).2.2.1 := kk
                               have := hb.mp (toN1 (by omega))
                               rcases hin with hin | hin
                               · have := nq_lt (by omega) (by omega) hin; omega
                               · have := nq_lt (by omega) (by omega) hin; omega))
                         | (have es : (M j).1 = false := hsF
                            rw [es, if_neg (by decide)] at hb
                            have q3 := g130
                            first
                            | (have hin : (M j).2.2.1 ≤ H (24 + a) := g111
                               have := hb.mpr hin
                               rw [this] at q3; simp at q3)
                            | (have hin : H (24 + a) < (M j).2.2.1 := g111
                               have := hb.mp (toN1 (by omega))
                               omega)))
                    · refine pE_iconst (v := nI 1) dX12_isRun_133 rfl ?_
                      refine pE_goto (tgt := 138) dX12_isRun_134 (by decide) ?_
                      refine pE_istore (lc' := [_, _, _, _, _, some (.int _), _, _]) dX12_isRun_138 (Nat.le_of_ble_eq_true rfl) rfl rfl ?_
                      refine pE_iincN (c0 := 1) (lc' := [_, _, _, _, _, _, some (.int _), _]) dX12_isRun_140 rfl rfl rfl rfl ?_
                      refine pE_goto (tgt := 22) dX12_isRun_143 (by decide) ?_
                      first
                      | (have hc0 : k < nI (M j).2.2.2.1 := h45
                         exact ih (j + 1) _ (by omega) (by omega) hst (skip (fun c => c.1 hc0)))
                      | (have hc1 : ¬ k < nI v := h67
                         exact ih (j + 1) _ (by omega) (by omega) hst (skip (fun c => c.2 v e (Int32.not_lt.mp hc1))))
                      | (have hb : okM M (H (24 + a)) lo hi j := by
                           unfold okM
                           first
                           | (have es : (M j).1 = true := hsT
                              rw [es, if_pos rfl]
                              first
                              | (have hin : ¬ nI (M j).2.2.1 < nI lo := k1
                                 have := nq_nlt (by omega) (by omega) k1
                                 have := nq_nlt (by omega) (by omega) k2
                                 have q3 := nq_eq (by omega) (by omega) h130
                                 exact ⟨fun _ => ⟨by omega, by omega⟩, fun _ => toN1 (by omega)⟩)
                              | (have q3 := nq_eq (by omega) (by omega) h130
                                 have hin : nI (M j).2.2.1 < nI lo ∨ nI hi < nI (M j).2.2.1 := kk
                                 refine ⟨fun c => absurd c (toN0 (by omega)), fun c => ?_⟩
                                 rcases hin with hin | hin
                                 · have := nq_lt (by omega) (by omega) hin; omega
                                 · have := nq_lt (by omega) (by omega) hin; omega))
                           | (have es : (M j).1 = false := hsF
                              rw [es, if_neg (by decide)]
                              have q3 := g130
                              first
                              | (have hin : (M j).2.2.1 ≤ H (24 + a) := g111
                                 exact ⟨fun _ => hin, fun _ => toN1 (by omega)⟩)
                              | (have hin : H (24 + a) < (M j).2.2.1 := g111
                                 exact ⟨fun c => absurd c (toN0 (by omega)), fun c => by omega⟩))
                         exact ih (j + 1) _ (by omega) (by omega) hst (good hb))
                      | (refine LF_X12_isRun hM hm30 (by omega) (h0 (bad ⟨h45, fun v2 hv => by rw [e] at hv; cases hv; exact Int32.not_le.mpr h67⟩ (fun hb => ?_)))
                         unfold okM at hb
                         first
                         | (have es : (M j).1 = true := hsT
                            rw [es, if_pos rfl] at hb
                            have q3 := nq_ne (by omega) (by omega) h130
                            first
                            | (have hin : ¬ nI (M j).2.2.1 < nI lo := k1
                               have q4 := nq_nlt (by omega) (by omega) k1
                               have q5 := nq_nlt (by omega) (by omega) k2
                               have := hb.mpr ⟨q4, q5⟩
                               rw [this] at q3; simp at q3)
                            | (have hin : nI (M j).2.2.1 < nI lo ∨ nI hi < nI (M j).2.2.1 := kk
                               have := hb.mp (toN1 (by omega))
                               rcases hin with hin | hin
                               · have := nq_lt (by omega) (by omega) hin; omega
                               · have := nq_lt (by omega) (by omega) hin; omega))
                         | (have es : (M j).1 = false := hsF
                            rw [es, if_neg (by decide)] at hb
                            have q3 := g130
                            first
                            | (have hin : (M j).2.2.1 ≤ H (24 + a) := g111
                               have := hb.mpr hin
                               rw [this] at q3; simp at q3)
                            | (have hin : H (24 + a) < (M j).2.2.1 := g111
                               have := hb.mp (toN1 (by omega))
                               omega)))
                  · refine pE_goto (tgt := 119) dX12_isRun_95 (by decide) ?_
                    refine pE_istore (lc' := [_, _, _, _, _, _, _, some (.int _)]) dX12_isRun_119 (Nat.le_of_ble_eq_true rfl) rfl rfl ?_
                    refine pE_iload dX12_isRun_121 rfl ?_
                    refine pE_aload_n dX12_isRun_123 rfl rfl ?_
                    refine pE_getR dX12_isRun_124 flX12_130 rfl (by first | assumption | rfl) (by first | assumption | rfl) ?_
                    refine pE_iload dX12_isRun_127 rfl ?_
                    refine pE_zaloadN dX12_isRun_129 (by first | assumption | rfl) (by first | assumption | omega) (by omega) ?_
                    rw [m2]
                    refine pE_icmp_ne (tgt := 137) dX12_isRun_130 (by decide) (fun h130 => ?_) (fun h130 => ?_)
                    · refine pE_iconst (v := nI 0) dX12_isRun_137 rfl ?_
                      refine pE_istore (lc' := [_, _, _, _, _, some (.int _), _, _]) dX12_isRun_138 (Nat.le_of_ble_eq_true rfl) rfl rfl ?_
                      refine pE_iincN (c0 := 1) (lc' := [_, _, _, _, _, _, some (.int _), _]) dX12_isRun_140 rfl rfl rfl rfl ?_
                      refine pE_goto (tgt := 22) dX12_isRun_143 (by decide) ?_
                      first
                      | (have hc0 : k < nI (M j).2.2.2.1 := h45
                         exact ih (j + 1) _ (by omega) (by omega) hst (skip (fun c => c.1 hc0)))
                      | (have hc1 : ¬ k < nI v := h67
                         exact ih (j + 1) _ (by omega) (by omega) hst (skip (fun c => c.2 v e (Int32.not_lt.mp hc1))))
                      | (have hb : okM M (H (24 + a)) lo hi j := by
                           unfold okM
                           first
                           | (have es : (M j).1 = true := hsT
                              rw [es, if_pos rfl]
                              first
                              | (have hin : ¬ nI (M j).2.2.1 < nI lo := k1
                                 have := nq_nlt (by omega) (by omega) k1
                                 have := nq_nlt (by omega) (by omega) k2
                                 have q3 := nq_eq (by omega) (by omega) h130
                                 exact ⟨fun _ => ⟨by omega, by omega⟩, fun _ => toN1 (by omega)⟩)
                              | (have q3 := nq_eq (by omega) (by omega) h130
                                 have hin : nI (M j).2.2.1 < nI lo ∨ nI hi < nI (M j).2.2.1 := kk
                                 refine ⟨fun c => absurd c (toN0 (by omega)), fun c => ?_⟩
                                 rcases hin with hin | hin
                                 · have := nq_lt (by omega) (by omega) hin; omega
                                 · have := nq_lt (by omega) (by omega) hin; omega))
                           | (have es : (M j).1 = false := hsF
                              rw [es, if_neg (by decide)]
                              have q3 := g130
                              first
                              | (have hin : (M j).2.2.1 ≤ H (24 + a) := g111
                                 exact ⟨fun _ => hin, fun _ => toN1 (by omega)⟩)
                              | (have hin : H (24 + a) < (M j).2.2.1 := g111
                                 exact ⟨fun c => absurd c (toN0 (by omega)), fun c => by omega⟩))
                         exact ih (j + 1) _ (by omega) (by omega) hst (good hb))
                      | (refine LF_X12_isRun hM hm30 (by omega) (h0 (bad ⟨h45, fun v2 hv => by rw [e] at hv; cases hv; exact Int32.not_le.mpr h67⟩ (fun hb => ?_)))
                         unfold okM at hb
                         first
                         | (have es : (M j).1 = true := hsT
                            rw [es, if_pos rfl] at hb
                            have q3 := nq_ne (by omega) (by omega) h130
                            first
                            | (have hin : ¬ nI (M j).2.2.1 < nI lo := k1
                               have q4 := nq_nlt (by omega) (by omega) k1
                               have q5 := nq_nlt (by omega) (by omega) k2
                               have := hb.mpr ⟨q4, q5⟩
                               rw [this] at q3; simp at q3)
                            | (have hin : nI (M j).2.2.1 < nI lo ∨ nI hi < nI (M j).2.2.1 := kk
                               have := hb.mp (toN1 (by omega))
                               rcases hin with hin | hin
                               · have := nq_lt (by omega) (by omega) hin; omega
                               · have := nq_lt (by omega) (by omega) hin; omega))
                         | (have es : (M j).1 = false := hsF
                            rw [es, if_neg (by decide)] at hb
                            have q3 := g130
                            first
                            | (have hin : (M j).2.2.1 ≤ H (24 + a) := g111
                               have := hb.mpr hin
                               rw [this] at q3; simp at q3)
                            | (have hin : H (24 + a) < (M j).2.2.1 := g111
                               have := hb.mp (toN1 (by omega))
                               omega)))
                    · refine pE_iconst (v := nI 1) dX12_isRun_133 rfl ?_
                      refine pE_goto (tgt := 138) dX12_isRun_134 (by decide) ?_
                      refine pE_istore (lc' := [_, _, _, _, _, some (.int _), _, _]) dX12_isRun_138 (Nat.le_of_ble_eq_true rfl) rfl rfl ?_
                      refine pE_iincN (c0 := 1) (lc' := [_, _, _, _, _, _, some (.int _), _]) dX12_isRun_140 rfl rfl rfl rfl ?_
                      refine pE_goto (tgt := 22) dX12_isRun_143 (by decide) ?_
                      first
                      | (have hc0 : k < nI (M j).2.2.2.1 := h45
                         exact ih (j + 1) _ (by omega) (by omega) hst (skip (fun c => c.1 hc0)))
                      | (have hc1 : ¬ k < nI v := h67
                         exact ih (j + 1) _ (by omega) (by omega) hst (skip (fun c => c.2 v e (Int32.not_lt.mp hc1))))
                      | (have hb : okM M (H (24 + a)) lo hi j := by
                           unfold okM
                           first
                           | (have es : (M j).1 = true := hsT
                              rw [es, if_pos rfl]
                              first
                              | (have hin : ¬ nI (M j).2.2.1 < nI lo := k1
                                 have := nq_nlt (by omega) (by omega) k1
                                 have := nq_nlt (by omega) (by omega) k2
                                 have q3 := nq_eq (by omega) (by omega) h130
                                 exact ⟨fun _ => ⟨by omega, by omega⟩, fun _ => toN1 (by omega)⟩)
                              | (have q3 := nq_eq (by omega) (by omega) h130
                                 have hin : nI (M j).2.2.1 < nI lo ∨ nI hi < nI (M j).2.2.1 := kk
                                 refine ⟨fun c => absurd c (toN0 (by omega)), fun c => ?_⟩
                                 rcases hin with hin | hin
                                 · have := nq_lt (by omega) (by omega) hin; omega
                                 · have := nq_lt (by omega) (by omega) hin; omega))
                           | (have es : (M j).1 = false := hsF
                              rw [es, if_neg (by decide)]
                              have q3 := g130
                              first
                              | (have hin : (M j).2.2.1 ≤ H (24 + a) := g111
                                 exact ⟨fun _ => hin, fun _ => toN1 (by omega)⟩)
                              | (have hin : H (24 + a) < (M j).2.2.1 := g111
                                 exact ⟨fun c => absurd c (toN0 (by omega)), fun c => by omega⟩))
                         exact ih (j + 1) _ (by omega) (by omega) hst (good hb))
                      | (refine LF_X12_isRun hM hm30 (by omega) (h0 (bad ⟨h45, fun v2 hv => by rw [e] at hv; cases hv; exact Int32.not_le.mpr h67⟩ (fun hb => ?_)))
                         unfold okM at hb
                         first
                         | (have es : (M j).1 = true := hsT
                            rw [es, if_pos rfl] at hb
                            have q3 := nq_ne (by omega) (by omega) h130
                            first
                            | (have hin : ¬ nI (M j).2.2.1 < nI lo := k1
                               have q4 := nq_nlt (by omega) (by omega) k1
                               have q5 := nq_nlt (by omega) (by omega) k2
                               have := hb.mpr ⟨q4, q5⟩
                               rw [this] at q3; simp at q3)
                            | (have hin : nI (M j).2.2.1 < nI lo ∨ nI hi < nI (M j).2.2.1 := kk
                               have := hb.mp (toN1 (by omega))
                               rcases hin with hin | hin
                               · have := nq_lt (by omega) (by omega) hin; omega
                               · have := nq_lt (by omega) (by omega) hin; omega))
                         | (have es : (M j).1 = false := hsF
                            rw [es, if_neg (by decide)] at hb
                            have q3 := g130
                            first
                            | (have hin : (M j).2.2.1 ≤ H (24 + a) := g111
                               have := hb.mpr hin
                               rw [this] at q3; simp at q3)
                            | (have hin : H (24 + a) < (M j).2.2.1 := g111
                               have := hb.mp (toN1 (by omega))
                               omega)))
              · refine pE_goto (tgt := 140) dX12_isRun_70 (by decide) ?_
                refine pE_iincN (c0 := 1) (lc' := [_, _, _, _, _, _, some (.int _), _]) dX12_isRun_140 rfl rfl rfl rfl ?_
                refine pE_goto (tgt := 22) dX12_isRun_143 (by decide) ?_
                first
                | (have hc0 : k < nI (M j).2.2.2.1 := h45
                   exact ih (j + 1) _ (by omega) (by omega) hst (skip (fun c => c.1 hc0)))
                | (have hc1 : ¬ k < nI v := h67
                   exact ih (j + 1) _ (by omega) (by omega) hst (skip (fun c => c.2 v e (Int32.not_lt.mp hc1))))
                | (have hb : okM M (H (24 + a)) lo hi j := by
                     unfold okM
                     first
                     | (have es : (M j).1 = true := hsT
                        rw [es, if_pos rfl]
                        first
                        | (have hin : ¬ nI (M j).2.2.1 < nI lo := k1
                           have := nq_nlt (by omega) (by omega) k1
                           have := nq_nlt (by omega) (by omega) k2
                           have q3 := nq_eq (by omega) (by omega) h130
                           exact ⟨fun _ => ⟨by omega, by omega⟩, fun _ => toN1 (by omega)⟩)
                        | (have q3 := nq_eq (by omega) (by omega) h130
                           have hin : nI (M j).2.2.1 < nI lo ∨ nI hi < nI (M j).2.2.1 := kk
                           refine ⟨fun c => absurd c (toN0 (by omega)), fun c => ?_⟩
                           rcases hin with hin | hin
                           · have := nq_lt (by omega) (by omega) hin; omega
                           · have := nq_lt (by omega) (by omega) hin; omega))
                     | (have es : (M j).1 = false := hsF
                        rw [es, if_neg (by decide)]
                        have q3 := g130
                        first
                        | (have hin : (M j).2.2.1 ≤ H (24 + a) := g111
                           exact ⟨fun _ => hin, fun _ => toN1 (by omega)⟩)
                        | (have hin : H (24 + a) < (M j).2.2.1 := g111
                           exact ⟨fun c => absurd c (toN0 (by omega)), fun c => by omega⟩))
                   exact ih (j + 1) _ (by omega) (by omega) hst (good hb))
                | (refine LF_X12_isRun hM hm30 (by omega) (h0 (bad ⟨h45, fun v2 hv => by rw [e] at hv; cases hv; exact Int32.not_le.mpr h67⟩ (fun hb => ?_)))
                   unfold okM at hb
                   first
                   | (have es : (M j).1 = true := hsT
                      rw [es, if_pos rfl] at hb
                      have q3 := nq_ne (by omega) (by omega) h130
                      first
                      | (have hin : ¬ nI (M j).2.2.1 < nI lo := k1
                         have q4 := nq_nlt (by omega) (by omega) k1
                         have q5 := nq_nlt (by omega) (by omega) k2
                         have := hb.mpr ⟨q4, q5⟩
                         rw [this] at q3; simp at q3)
                      | (have hin : nI (M j).2.2.1 < nI lo ∨ nI hi < nI (M j).2.2.1 := kk
                         have := hb.mp (toN1 (by omega))
                         rcases hin with hin | hin
                         · have := nq_lt (by omega) (by omega) hin; omega
                         · have := nq_lt (by omega) (by omega) hin; omega))
                   | (have es : (M j).1 = false := hsF
                      rw [es, if_neg (by decide)] at hb
                      have q3 := g130
                      first
                      | (have hin : (M j).2.2.1 ≤ H (24 + a) := g111
                         have := hb.mpr hin
                         rw [this] at q3; simp at q3)
                      | (have hin : H (24 + a) < (M j).2.2.1 := g111
                         have := hb.mp (toN1 (by omega))
                         omega)))
set_option maxHeartbeats 400000 in
set_option maxRecDepth 100000 in
theorem M_X12_isRun {l : Launch} {X : pX} {t g : Nat} {I : pHI} {J : pHJ} {Q : pQ} {a lo hi : Nat} {k : Int32} {m u : Nat} {M : pMk} {H : pN} (hH : mH H I) (hr : rH H) (hM : mM I m u M) (hrM : rM H m u M) (ha : a < H 1) (hlo : lo < hi) (hhi : hi ≤ H 0) (h1 : runP M k m (H (24 + a)) (H (16 + a)) lo hi → Q (some (.int (nI 1))) I J (pR t g)) (h0 : ¬ runP M k m (H (24 + a)) (H (16 + a)) lo hi → Q (some (.int (nI 0))) I J (pR t g)) : pM l X yX12_isRun mX12_isRun 1 [.ref 67, .int (nI a), .int (nI lo), .int (nI hi), .int k] pK pK I J (pR t g) Q := by
  have hn20 := hr.1.2
  have hn8 := hr.2.1
  have hst := (hr.2.2.2.2 a (by omega)).2.1
  refine pM_of rfl (fun h => by cases h) rfl pKM (Nat.le_of_ble_eq_true rfl) ?_
  refine pE_iload_n dX12_isRun_0 rfl rfl ?_
  refine pE_iload_n dX12_isRun_1 rfl rfl ?_
  refine pE_isubN dX12_isRun_2 (by omega) ?_
  refine pE_aload_n dX12_isRun_3 rfl rfl ?_
  refine pE_getR dX12_isRun_4 flX12_70 rfl (by first | assumption | rfl) (by first | assumption | rfl) ?_
  refine pE_iload_n dX12_isRun_7 rfl rfl ?_
  refine pE_ialoadN dX12_isRun_8 (by first | assumption | rfl) (by first | assumption | omega) (by omega) ?_
  rw [(hH.2.2.2 a ha).2.1]
  refine pE_icmp_gt (tgt := 16) dX12_isRun_9 (by decide) (fun h9 => ?_) (fun h9 => ?_)
  · have g9 := nq_lt (by omega) (by omega) h9
    refine pE_iconst (v := nI 0) dX12_isRun_16 rfl ?_
    refine pE_istore (lc' := [_, _, _, _, _, some (.int _), _, _]) dX12_isRun_17 (Nat.le_of_ble_eq_true rfl) rfl rfl ?_
    refine pE_iconst (v := nI 0) dX12_isRun_19 rfl ?_
    refine pE_istore (lc' := [_, _, _, _, _, _, some (.int _), _]) dX12_isRun_20 (Nat.le_of_ble_eq_true rfl) rfl rfl ?_
    first
    | (have gg : hi - lo ≤ H (16 + a) := g9
       exact LT_X12_isRun hH hr hM hrM ha hlo hhi h1 h0 (m + 1) 0 _ (by omega) (by omega) gg (fun i hi => by omega))
    | exact LF_X12_isRun hM hrM.1 (Nat.zero_le _) (h0 (fun c => by have := c.1; omega))
  · have g9 := nq_nlt (by omega) (by omega) h9
    refine pE_iconst (v := nI 1) dX12_isRun_12 rfl ?_
    refine pE_goto (tgt := 17) dX12_isRun_13 (by decide) ?_
    refine pE_istore (lc' := [_, _, _, _, _, some (.int _), _, _]) dX12_isRun_17 (Nat.le_of_ble_eq_true rfl) rfl rfl ?_
    refine pE_iconst (v := nI 0) dX12_isRun_19 rfl ?_
    refine pE_istore (lc' := [_, _, _, _, _, _, some (.int _), _]) dX12_isRun_20 (Nat.le_of_ble_eq_true rfl) rfl rfl ?_
    first
    | (have gg : hi - lo ≤ H (16 + a) := g9
       exact LT_X12_isRun hH hr hM hrM ha hlo hhi h1 h0 (m + 1) 0 _ (by omega) (by omega) gg (fun i hi => by omega))
    | exact LF_X12_isRun hM hrM.1 (Nat.zero_le _) (h0 (fun c => by have := c.1; omega))
