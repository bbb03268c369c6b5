set_option maxHeartbeats 4000000 in
set_option maxRecDepth 100000 in
theorem M_X1_push {l : Launch} {X : pX} {t g : Nat} {I : pHI} {J : pHJ} {Q : pQ} {f : Nat} {v : Int32} {s : List Int32} (hf : isF f) (h : stk f s I) (hl : s.length < 32) (hq : Q none (pu (pu I (f + 3) s.length v) f 4 (nI (s.length + 1))) J (pR t g)) : pM l X yX1_push mX1_push 0 [.ref f, .int v] pK pK I J (pR t g) Q := by
  obtain ⟨fFFhf0, fFFhf1, fFFhf2, fFFhf3, fFFhf4, fFFhf5, fFFhf6⟩ := FF t g hf
  refine pM_of rfl (fun h => by cases h) rfl pKM (Nat.le_of_ble_eq_true rfl) ?_
  refine pE_aload_n dX1_push_0 rfl rfl ?_
  refine pE_getI dX1_push_1 flX1_23 rfl (Or.inl rfl) (by first | assumption | rfl) ?_
  rw [h.1]
  refine pE_if_lt (tgt := 39) dX1_push_4 (by decide) (fun h4 => ?_) (fun h4 => ?_)
  · exact absurd h4 (nI_pos (by omega))
  · refine pE_aload_n dX1_push_7 rfl rfl ?_
    refine pE_getI dX1_push_8 flX1_23 rfl (Or.inl rfl) (by first | assumption | rfl) ?_
    rw [h.1]
    refine pE_aload_n dX1_push_11 rfl rfl ?_
    refine pE_getR dX1_push_12 flX1_20 rfl (by first | assumption | rfl) (by first | assumption | rfl) ?_
    refine pE_alenN dX1_push_15 (by first | assumption | rfl) (by decide) ?_
    refine pE_icmp_ge (tgt := 39) dX1_push_16 (by decide) (fun h16 => ?_) (fun h16 => ?_)
    · have g16 := nq_le (by omega) (by omega) h16
      exact absurd g16 (by omega)
    · have g16 := nq_nle (by omega) (by omega) h16
      refine pE_aload_n dX1_push_19 rfl rfl ?_
      refine pE_getR dX1_push_20 flX1_20 rfl (by first | assumption | rfl) (by first | assumption | rfl) ?_
      refine pE_aload_n dX1_push_23 rfl rfl ?_
      refine pE_getI dX1_push_24 flX1_23 rfl (Or.inl rfl) (by first | assumption | rfl) ?_
      rw [h.1]
      refine pE_iload_n dX1_push_27 rfl rfl ?_
      refine pE_iastoreN dX1_push_28 (by first | assumption | rfl) (by omega) (by omega) ?_
      refine pE_aload_n dX1_push_29 rfl rfl ?_
      refine pE_dupR dX1_push_30 ?_
      refine pE_getI dX1_push_31 flX1_23 rfl (Or.inl rfl) (by first | assumption | rfl) ?_
      rw [pu_ne _ _ _ (by omega : f ≠ f + 3), h.1]
      refine pE_iconst (v := nI 1) dX1_push_34 rfl ?_
      refine pE_iaddN dX1_push_35 ?_
      refine pE_putI dX1_push_36 flX1_23 ftX1 fiX1_4 rfl rfl (by first | assumption | rfl) ?_
      refine pE_vret dX1_push_39 rfl rfl ?_
      exact hq
set_option maxHeartbeats 4000000 in
set_option maxRecDepth 100000 in
theorem M_X1_pop {l : Launch} {X : pX} {t g : Nat} {I : pHI} {J : pHJ} {Q : pQ} {f : Nat} {v : Int32} {s : List Int32} (hf : isF f) (h : stk f (v :: s) I) (hl : s.length < 32) (hq : Q (some (.int v)) (pu I f 4 (nI s.length)) J (pR t g)) : pM l X yX1_pop mX1_pop 0 [.ref f] pK pK I J (pR t g) Q := by
  obtain ⟨fFFhf0, fFFhf1, fFFhf2, fFFhf3, fFFhf4, fFFhf5, fFFhf6⟩ := FF t g hf
  have h1 : I f 4 = nI (s.length + 1) := h.1
  refine pM_of rfl (fun h => by cases h) rfl pKM (Nat.le_of_ble_eq_true rfl) ?_
  refine pE_aload_n dX1_pop_0 rfl rfl ?_
  refine pE_getI dX1_pop_1 flX1_23 rfl (Or.inl rfl) (by first | assumption | rfl) ?_
  rw [h1]
  refine pE_iconst (v := nI 1) dX1_pop_4 rfl ?_
  refine pE_icmp_lt (tgt := 20) dX1_pop_5 (by decide) (fun h5 => ?_) (fun h5 => ?_)
  · have g5 := nq_lt (by omega) (by omega) h5
    exact absurd g5 (by omega)
  · have g5 := nq_nlt (by omega) (by omega) h5
    refine pE_aload_n dX1_pop_8 rfl rfl ?_
    refine pE_getI dX1_pop_9 flX1_23 rfl (Or.inl rfl) (by first | assumption | rfl) ?_
    rw [h1]
    refine pE_aload_n dX1_pop_12 rfl rfl ?_
    refine pE_getR dX1_pop_13 flX1_20 rfl (by first | assumption | rfl) (by first | assumption | rfl) ?_
    refine pE_alenN dX1_pop_16 (by first | assumption | rfl) (by decide) ?_
    refine pE_icmp_le (tgt := 22) dX1_pop_17 (by decide) (fun h17 => ?_) (fun h17 => ?_)
    · have g17 := nq_le (by omega) (by omega) h17
      refine pE_aload_n dX1_pop_22 rfl rfl ?_
      refine pE_dupR dX1_pop_23 ?_
      refine pE_getI dX1_pop_24 flX1_23 rfl (Or.inl rfl) (by first | assumption | rfl) ?_
      rw [h1]
      refine pE_iconst (v := nI 1) dX1_pop_27 rfl ?_
      refine pE_isubN dX1_pop_28 (by omega) ?_
      refine pE_putI dX1_pop_29 flX1_23 ftX1 fiX1_4 rfl rfl (by first | assumption | rfl) ?_
      refine pE_aload_n dX1_pop_32 rfl rfl ?_
      refine pE_getR dX1_pop_33 flX1_20 rfl (by first | assumption | rfl) (by first | assumption | rfl) ?_
      refine pE_aload_n dX1_pop_36 rfl rfl ?_
      refine pE_getI dX1_pop_37 flX1_23 rfl (Or.inl rfl) (by first | assumption | rfl) ?_
      rw [(by simp [pu_at] : pu I f 4 (nI (s.length + 1 - 1)) f 4 = nI (s.length + 1 - 1))]
      refine pE_ialoadN dX1_pop_40 (by first | assumption | rfl) (by omega) (by omega) ?_
      refine pE_iret dX1_pop_41 rfl rfl ?_
      rw [Nat.add_sub_cancel, pu_ne _ _ _ (by omega : f + 3 ≠ f), h.top]
      exact hq
    · have g17 := nq_nle (by omega) (by omega) h17
      exact absurd g17 (by omega)
set_option maxHeartbeats 4000000 in
set_option maxRecDepth 100000 in
theorem M_X1_joined {l : Launch} {X : pX} {t g : Nat} {I : pHI} {J : pHJ} {Q : pQ} {k : Nat} {a b : Int32} (hk : isSg k) (hq : Q (some (.int (dn k a b))) I J (pR t g)) : pM l X yX1_joined mX1_joined 0 [.int (nI k), .int a, .int b] pK pK I J (pR t g) Q := by
  refine pM_of rfl (fun h => by cases h) rfl pKM (Nat.le_of_ble_eq_true rfl) ?_
  refine pE_iload_n dX1_joined_0 rfl rfl ?_
  rcases hk with rfl | rfl | rfl | rfl | rfl | rfl | rfl | rfl | rfl | rfl
  · refine pE_lookup (off := 115) (tgt := 116) dX1_joined_1 (by decide) (by decide +kernel) (by decide) ?_
    refine pE_iload_n dX1_joined_116 rfl rfl ?_
    refine pE_if_ne (tgt := 124) dX1_joined_117 (by decide) (fun h117 => ?_) (fun h117 => ?_)
    · refine pE_iload_n dX1_joined_124 rfl rfl ?_
      refine pE_iload_n dX1_joined_125 rfl rfl ?_
      refine pE_irem dX1_joined_126 (by assumption) ?_
      refine pE_iret dX1_joined_127 rfl rfl ?_
      refine cgQ ?_ hq
      simp [dn, *]
    · refine pE_iconst (v := nI 0) dX1_joined_120 rfl ?_
      refine pE_goto (tgt := 127) dX1_joined_121 (by decide) ?_
      refine pE_iret dX1_joined_127 rfl rfl ?_
      refine cgQ ?_ hq
      simp [dn, *]
  · refine pE_lookup (off := 160) (tgt := 161) dX1_joined_1 (by decide) (by decide +kernel) (by decide) ?_
    refine pE_iload_n dX1_joined_161 rfl rfl ?_
    refine pE_if_eq (tgt := 173) dX1_joined_162 (by decide) (fun h162 => ?_) (fun h162 => ?_)
    · refine pE_iconst (v := nI 0) dX1_joined_173 rfl ?_
      refine pE_iret dX1_joined_174 rfl rfl ?_
      refine cgQ ?_ hq
      simp [dn, *]
    · refine pE_iload_n dX1_joined_165 rfl rfl ?_
      refine pE_if_eq (tgt := 173) dX1_joined_166 (by decide) (fun h166 => ?_) (fun h166 => ?_)
      · refine pE_iconst (v := nI 0) dX1_joined_173 rfl ?_
        refine pE_iret dX1_joined_174 rfl rfl ?_
        refine cgQ ?_ hq
        simp [dn, *]
      · refine pE_iconst (v := nI 1) dX1_joined_169 rfl ?_
        refine pE_goto (tgt := 174) dX1_joined_170 (by decide) ?_
        refine pE_iret dX1_joined_174 rfl rfl ?_
        refine cgQ ?_ hq
        simp [dn, *]
  · refine pE_lookup (off := 99) (tgt := 100) dX1_joined_1 (by decide) (by decide +kernel) (by decide) ?_
    refine pE_iload_n dX1_joined_100 rfl rfl ?_
    refine pE_iload_n dX1_joined_101 rfl rfl ?_
    refine pE_imul dX1_joined_102 ?_
    refine pE_iret dX1_joined_103 rfl rfl ?_
    refine cgQ ?_ hq
    simp [dn, *]
  · refine pE_lookup (off := 91) (tgt := 92) dX1_joined_1 (by decide) (by decide +kernel) (by decide) ?_
    refine pE_iload_n dX1_joined_92 rfl rfl ?_
    refine pE_iload_n dX1_joined_93 rfl rfl ?_
    refine pE_iadd dX1_joined_94 ?_
    refine pE_iret dX1_joined_95 rfl rfl ?_
    refine cgQ ?_ hq
    simp [dn, *]
  · refine pE_lookup (off := 95) (tgt := 96) dX1_joined_1 (by decide) (by decide +kernel) (by decide) ?_
    refine pE_iload_n dX1_joined_96 rfl rfl ?_
    refine pE_iload_n dX1_joined_97 rfl rfl ?_
    refine pE_isub dX1_joined_98 ?_
    refine pE_iret dX1_joined_99 rfl rfl ?_
    refine cgQ ?_ hq
    simp [dn, *]
  · refine pE_lookup (off := 103) (tgt := 104) dX1_joined_1 (by decide) (by decide +kernel) (by decide) ?_
    refine pE_iload_n dX1_joined_104 rfl rfl ?_
    refine pE_if_ne (tgt := 112) dX1_joined_105 (by decide) (fun h105 => ?_) (fun h105 => ?_)
    · refine pE_iload_n dX1_joined_112 rfl rfl ?_
      refine pE_iload_n dX1_joined_113 rfl rfl ?_
      refine pE_idiv dX1_joined_114 (by assumption) ?_
      refine pE_iret dX1_joined_115 rfl rfl ?_
      refine cgQ ?_ hq
      simp [dn, *]
    · refine pE_iconst (v := nI 0) dX1_joined_108 rfl ?_
      refine pE_goto (tgt := 115) dX1_joined_109 (by decide) ?_
      refine pE_iret dX1_joined_115 rfl rfl ?_
      refine cgQ ?_ hq
      simp [dn, *]
  · refine pE_lookup (off := 127) (tgt := 128) dX1_joined_1 (by decide) (by decide +kernel) (by decide) ?_
    refine pE_iload_n dX1_joined_128 rfl rfl ?_
    refine pE_iload_n dX1_joined_129 rfl rfl ?_
    refine pE_icmp_ge (tgt := 137) dX1_joined_130 (by decide) (fun h130 => ?_) (fun h130 => ?_)
    · refine pE_iconst (v := nI 0) dX1_joined_137 rfl ?_
      refine pE_iret dX1_joined_138 rfl rfl ?_
      refine cgQ ?_ hq
      simp [dn, *]
    · refine pE_iconst (v := nI 1) dX1_joined_133 rfl ?_
      refine pE_goto (tgt := 138) dX1_joined_134 (by decide) ?_
      refine pE_iret dX1_joined_138 rfl rfl ?_
      refine cgQ ?_ hq
      simp [dn, *]
  · refine pE_lookup (off := 149) (tgt := 150) dX1_joined_1 (by decide) (by decide +kernel) (by decide) ?_
    refine pE_iload_n dX1_joined_150 rfl rfl ?_
    refine pE_iload_n dX1_joined_151 rfl rfl ?_
    refine pE_icmp_ne (tgt := 159) dX1_joined_152 (by decide) (fun h152 => ?_) (fun h152 => ?_)
    · refine pE_iconst (v := nI 0) dX1_joined_159 rfl ?_
      refine pE_iret dX1_joined_160 rfl rfl ?_
      refine cgQ ?_ hq
      simp [dn, *]
    · refine pE_iconst (v := nI 1) dX1_joined_155 rfl ?_
      refine pE_goto (tgt := 160) dX1_joined_156 (by decide) ?_
      refine pE_iret dX1_joined_160 rfl rfl ?_
      refine cgQ ?_ hq
      simp [dn, *]
  · refine pE_lookup (off := 138) (tgt := 139) dX1_joined_1 (by decide) (by decide +kernel) (by decide) ?_
    refine pE_iload_n dX1_joined_139 rfl rfl ?_
    refine pE_iload_n dX1_joined_140 rfl rfl ?_
    refine pE_icmp_le (tgt := 148) dX1_joined_141 (by decide) (fun h141 => ?_) (fun h141 => ?_)
    · refine pE_iconst (v := nI 0) dX1_joined_148 rfl ?_
      refine pE_iret dX1_joined_149 rfl rfl ?_
      refine cgQ ?_ hq
      simp [dn, *]
    · refine pE_iconst (v := nI 1) dX1_joined_144 rfl ?_
      refine pE_goto (tgt := 149) dX1_joined_145 (by decide) ?_
      refine pE_iret dX1_joined_149 rfl rfl ?_
      refine cgQ ?_ hq
      simp [dn, *]
  · refine pE_lookup (off := 174) (tgt := 175) dX1_joined_1 (by decide) (by decide +kernel) (by decide) ?_
    refine pE_iload_n dX1_joined_175 rfl rfl ?_
    refine pE_if_ne (tgt := 183) dX1_joined_176 (by decide) (fun h176 => ?_) (fun h176 => ?_)
    · refine pE_iconst (v := nI 1) dX1_joined_183 rfl ?_
      refine pE_goto (tgt := 188) dX1_joined_184 (by decide) ?_
      refine pE_iret dX1_joined_188 rfl rfl ?_
      refine cgQ ?_ hq
      simp [dn, *]
    · refine pE_iload_n dX1_joined_179 rfl rfl ?_
      refine pE_if_eq (tgt := 187) dX1_joined_180 (by decide) (fun h180 => ?_) (fun h180 => ?_)
      · refine pE_iconst (v := nI 0) dX1_joined_187 rfl ?_
        refine pE_iret dX1_joined_188 rfl rfl ?_
        refine cgQ ?_ hq
        simp [dn, *]
      · refine pE_iconst (v := nI 1) dX1_joined_183 rfl ?_
        refine pE_goto (tgt := 188) dX1_joined_184 (by decide) ?_
        refine pE_iret dX1_joined_188 rfl rfl ?_
        refine cgQ ?_ hq
        simp [dn, *]
set_option maxHeartbeats 4000000 in
set_option maxRecDepth 100000 in
theorem L_X1_valueOf {l : Launch} {X : pX} {t g : Nat} {I : pHI} {J : pHJ} {Q : pQ} {f : Nat} {p : pP} {x : Nat → Int32} (hf : isF f) (hF : cF f p I) (hq : ∀ I1, sb I I1 → Q (some (.int (ev p x))) I1 J (pR t g)) : ∀ (p2 : pP) (i : Nat) (s : List Int32) (I1 : pHI) (v8 v9 : Option Value), p.drop i = p2 → i ≤ p.length → sb I I1 → stk f s I1 → s.length ≤ 32 → wfp p2 s.length → (evs x p2 s).headD 0 = ev p x → pE l X mX1_valueOf 1 pK 8 [some (.ref f), some (.int (x 1)), some (.int (x 2)), some (.int (x 3)), some (.int (x 4)), some (.int (x 5)), some (.int (x 6)), some (.int (nI i)), v8, v9] [] pK I1 J (pR t g) Q := by
  obtain ⟨fFFhf0, fFFhf1, fFFhf2, fFFhf3, fFFhf4, fFFhf5, fFFhf6⟩ := FF t g hf
  intro p2
  induction p2 with
  | nil =>
    intro i s I1 v8 v9 hd hi hs hk hl hw he
    have hi2 : i = p.length := by have := congrArg List.length hd; simp at this; omega
    obtain ⟨b1, b2, b3⟩ := cF.sb hf hF hs
    have hw : s.length = 1 := hw
    obtain ⟨a, rfl⟩ : ∃ a, s = [a] := by match s, hw with | [a], _ => exact ⟨a, rfl⟩
    refine pE_iload dX1_valueOf_8 rfl ?_
    refine pE_aload_n dX1_valueOf_10 rfl rfl ?_
    refine pE_getI dX1_valueOf_11 flX1_16 rfl (Or.inl rfl) (by first | assumption | rfl) ?_
    rw [b2]
    refine pE_icmp_ge (tgt := 200) dX1_valueOf_14 (by decide) (fun h14 => ?_) (fun h14 => ?_)
    · have g14 := nq_le (by omega) (by omega) h14
      refine pE_aload_n dX1_valueOf_200 rfl rfl ?_
      refine pE_callV (d' := 0) (as := []) dX1_valueOf_201 lkX1_34 (cwX1_pop _ _) ivX1_pop ⟨_, rfl, rfl⟩ (by first | assumption | rfl) rfl rfl (Nat.le_of_ble_eq_true rfl) (by decide) pKK ?_
      refine M_X1_pop hf hk (by simp) ?_
      refine pE_iret dX1_valueOf_204 rfl rfl ?_
      refine cgQ ?_ (hq _ (hs.pu (scF_f hf)))
      exact he
    · have g14 := nq_nle (by omega) (by omega) h14
      exact absurd g14 (by omega)
  | cons q p2 ih =>
    intro i s I1 v8 v9 hd hi hs hk hl hw he
    have hlt : i < p.length := by rcases Nat.lt_or_ge i p.length with h | h; exact h; rw [List.drop_eq_nil_of_le h] at hd; cases hd
    have hq0 : p[i]? = some q := by have := congrArg (fun z => z[0]?) hd; simpa using this
    have hd2 : p.drop (i + 1) = p2 := by have := congrArg List.tail hd; simpa using this
    obtain ⟨b1, b2, b3⟩ := cF.sb hf hF hs
    obtain ⟨k, m⟩ := q
    obtain ⟨c1, c2, c3, c4⟩ := b3 i (k, m) hq0
    simp only at c1 c2 c3 c4
    refine pE_iload dX1_valueOf_8 rfl ?_
    refine pE_aload_n dX1_valueOf_10 rfl rfl ?_
    refine pE_getI dX1_valueOf_11 flX1_16 rfl (Or.inl rfl) (by first | assumption | rfl) ?_
    rw [b2]
    refine pE_icmp_ge (tgt := 200) dX1_valueOf_14 (by decide) (fun h14 => ?_) (fun h14 => ?_)
    · have g14 := nq_le (by omega) (by omega) h14
      exact absurd g14 (by omega)
    · have g14 := nq_nle (by omega) (by omega) h14
      refine pE_iload dX1_valueOf_17 rfl ?_
      refine pE_sipush (v := nI 300) dX1_valueOf_19 rfl ?_
      refine pE_icmp_ge (tgt := 200) dX1_valueOf_22 (by decide) (fun h22 => ?_) (fun h22 => ?_)
      · have g22 := nq_le (by omega) (by omega) h22
        exact absurd g22 (by omega)
      · have g22 := nq_nle (by omega) (by omega) h22
        refine pE_aload_n dX1_valueOf_25 rfl rfl ?_
        refine pE_getR dX1_valueOf_26 flX1_9 rfl (by first | assumption | rfl) (by first | assumption | rfl) ?_
        refine pE_iload dX1_valueOf_29 rfl ?_
        refine pE_ialoadN dX1_valueOf_31 (by first | assumption | rfl) (by first | assumption | omega) (by omega) ?_
        rw [c1]
        rcases hw with ⟨w1, w2, w3⟩ | ⟨w1, w2, w3⟩ | ⟨w1, w2, w3⟩
        · have w1 : k ≤ 6 := w1
          have hc : k = 0 ∨ k = 1 ∨ k = 2 ∨ k = 3 ∨ k = 4 ∨ k = 5 ∨ k = 6 := by omega
          rcases hc with rfl | rfl | rfl | rfl | rfl | rfl | rfl
          · refine pE_tableIn (off := 48) (tgt := 80) dX1_valueOf_32 (by decide +kernel) (by decide +kernel) rfl (by decide) ?_
            refine pE_aload_n dX1_valueOf_80 rfl rfl ?_
            refine pE_aload_n dX1_valueOf_81 rfl rfl ?_
            refine pE_getR dX1_valueOf_82 flX1_13 rfl (by first | assumption | rfl) (by first | assumption | rfl) ?_
            refine pE_iload dX1_valueOf_85 rfl ?_
            refine pE_ialoadN dX1_valueOf_87 (by first | assumption | rfl) (by first | assumption | omega) (by omega) ?_
            rw [c2]
            refine pE_callV (d' := 0) (as := [_]) dX1_valueOf_88 lkX1_30 (cwX1_push _ _) ivX1_push ⟨_, rfl, rfl⟩ (by first | assumption | rfl) rfl rfl (Nat.le_of_ble_eq_true rfl) (by decide) pKK ?_
            refine M_X1_push hf hk (by omega) ?_
            refine pE_goto (tgt := 194) dX1_valueOf_91 (by decide) ?_
            refine pE_iincN (c0 := 1) (lc' := [_, _, _, _, _, _, _, some (.int _), _, _]) dX1_valueOf_194 rfl rfl rfl rfl ?_
            refine pE_goto (tgt := 8) dX1_valueOf_197 (by decide) ?_
            exact ih (i + 1) _ _ _ _ hd2 (by omega) ((hs.pu (scF_s hf _)).pu (scF_f hf)) hk.push (by simp only [List.length_cons]; omega) w3 (by simpa [evs, ev1] using he)
          · refine pE_tableIn (off := 62) (tgt := 94) dX1_valueOf_32 (by decide +kernel) (by decide +kernel) rfl (by decide) ?_
            refine pE_aload_n dX1_valueOf_94 rfl rfl ?_
            refine pE_iload_n dX1_valueOf_95 rfl rfl ?_
            refine pE_callV (d' := 0) (as := [_]) dX1_valueOf_96 lkX1_30 (cwX1_push _ _) ivX1_push ⟨_, rfl, rfl⟩ (by first | assumption | rfl) rfl rfl (Nat.le_of_ble_eq_true rfl) (by decide) pKK ?_
            refine M_X1_push hf hk (by omega) ?_
            refine pE_goto (tgt := 194) dX1_valueOf_99 (by decide) ?_
            refine pE_iincN (c0 := 1) (lc' := [_, _, _, _, _, _, _, some (.int _), _, _]) dX1_valueOf_194 rfl rfl rfl rfl ?_
            refine pE_goto (tgt := 8) dX1_valueOf_197 (by decide) ?_
            exact ih (i + 1) _ _ _ _ hd2 (by omega) ((hs.pu (scF_s hf _)).pu (scF_f hf)) hk.push (by simp only [List.length_cons]; omega) w3 (by simpa [evs, ev1] using he)
          · refine pE_tableIn (off := 70) (tgt := 102) dX1_valueOf_32 (by decide +kernel) (by decide +kernel) rfl (by decide) ?_
            refine pE_aload_n dX1_valueOf_102 rfl rfl ?_
            refine pE_iload_n dX1_valueOf_103 rfl rfl ?_
            refine pE_callV (d' := 0) (as := [_]) dX1_valueOf_104 lkX1_30 (cwX1_push _ _) ivX1_push ⟨_, rfl, rfl⟩ (by first | assumption | rfl) rfl rfl (Nat.le_of_ble_eq_true rfl) (by decide) pKK ?_
            refine M_X1_push hf hk (by omega) ?_
            refine pE_goto (tgt := 194) dX1_valueOf_107 (by decide) ?_
            refine pE_iincN (c0 := 1) (lc' := [_, _, _, _, _, _, _, some (.int _), _, _]) dX1_valueOf_194 rfl rfl rfl rfl ?_
            refine pE_goto (tgt := 8) dX1_valueOf_197 (by decide) ?_
            exact ih (i + 1) _ _ _ _ hd2 (by omega) ((hs.pu (scF_s hf _)).pu (scF_f hf)) hk.push (by simp only [List.length_cons]; omega) w3 (by simpa [evs, ev1] using he)
          · refine pE_tableIn (off := 78) (tgt := 110) dX1_valueOf_32 (by decide +kernel) (by decide +kernel) rfl (by decide) ?_
            refine pE_aload_n dX1_valueOf_110 rfl rfl ?_
            refine pE_iload_n dX1_valueOf_111 rfl rfl ?_
            refine pE_callV (d' := 0) (as := [_]) dX1_valueOf_112 lkX1_30 (cwX1_push _ _) ivX1_push ⟨_, rfl, rfl⟩ (by first | assumption | rfl) rfl rfl (Nat.le_of_ble_eq_true rfl) (by decide) pKK ?_
            refine M_X1_push hf hk (by omega) ?_
            refine pE_goto (tgt := 194) dX1_valueOf_115 (by decide) ?_
            refine pE_iincN (c0 := 1) (lc' := [_, _, _, _, _, _, _, some (.int _), _, _]) dX1_valueOf_194 rfl rfl rfl rfl ?_
            refine pE_goto (tgt := 8) dX1_valueOf_197 (by decide) ?_
            exact ih (i + 1) _ _ _ _ hd2 (by omega) ((hs.pu (scF_s hf _)).pu (scF_f hf)) hk.push (by simp only [List.length_cons]; omega) w3 (by simpa [evs, ev1] using he)
          · refine pE_tableIn (off := 86) (tgt := 118) dX1_valueOf_32 (by decide +kernel) (by decide +kernel) rfl (by decide) ?_
            refine pE_aload_n dX1_valueOf_118 rfl rfl ?_
            refine pE_iload dX1_valueOf_119 rfl ?_
            refine pE_callV (d' := 0) (as := [_]) dX1_valueOf_121 lkX1_30 (cwX1_push _ _) ivX1_push ⟨_, rfl, rfl⟩ (by first | assumption | rfl) rfl rfl (Nat.le_of_ble_eq_true rfl) (by decide) pKK ?_
            refine M_X1_push hf hk (by omega) ?_
            refine pE_goto (tgt := 194) dX1_valueOf_124 (by decide) ?_
            refine pE_iincN (c0 := 1) (lc' := [_, _, _, _, _, _, _, some (.int _), _, _]) dX1_valueOf_194 rfl rfl rfl rfl ?_
            refine pE_goto (tgt := 8) dX1_valueOf_197 (by decide) ?_
            exact ih (i + 1) _ _ _ _ hd2 (by omega) ((hs.pu (scF_s hf _)).pu (scF_f hf)) hk.push (by simp only [List.length_cons]; omega) w3 (by simpa [evs, ev1] using he)
          · refine pE_tableIn (off := 95) (tgt := 127) dX1_valueOf_32 (by decide +kernel) (by decide +kernel) rfl (by decide) ?_
            refine pE_aload_n dX1_valueOf_127 rfl rfl ?_
            refine pE_iload dX1_valueOf_128 rfl ?_
            refine pE_callV (d' := 0) (as := [_]) dX1_valueOf_130 lkX1_30 (cwX1_push _ _) ivX1_push ⟨_, rfl, rfl⟩ (by first | assumption | rfl) rfl rfl (Nat.le_of_ble_eq_true rfl) (by decide) pKK ?_
            refine M_X1_push hf hk (by omega) ?_
            refine pE_goto (tgt := 194) dX1_valueOf_133 (by decide) ?_
            refine pE_iincN (c0 := 1) (lc' := [_, _, _, _, _, _, _, some (.int _), _, _]) dX1_valueOf_194 rfl rfl rfl rfl ?_
            refine pE_goto (tgt := 8) dX1_valueOf_197 (by decide) ?_
            exact ih (i + 1) _ _ _ _ hd2 (by omega) ((hs.pu (scF_s hf _)).pu (scF_f hf)) hk.push (by simp only [List.length_cons]; omega) w3 (by simpa [evs, ev1] using he)
          · refine pE_tableIn (off := 104) (tgt := 136) dX1_valueOf_32 (by decide +kernel) (by decide +kernel) rfl (by decide) ?_
            refine pE_aload_n dX1_valueOf_136 rfl rfl ?_
            refine pE_iload dX1_valueOf_137 rfl ?_
            refine pE_callV (d' := 0) (as := [_]) dX1_valueOf_139 lkX1_30 (cwX1_push _ _) ivX1_push ⟨_, rfl, rfl⟩ (by first | assumption | rfl) rfl rfl (Nat.le_of_ble_eq_true rfl) (by decide) pKK ?_
            refine M_X1_push hf hk (by omega) ?_
            refine pE_goto (tgt := 194) dX1_valueOf_142 (by decide) ?_
            refine pE_iincN (c0 := 1) (lc' := [_, _, _, _, _, _, _, some (.int _), _, _]) dX1_valueOf_194 rfl rfl rfl rfl ?_
            refine pE_goto (tgt := 8) dX1_valueOf_197 (by decide) ?_
            exact ih (i + 1) _ _ _ _ hd2 (by omega) ((hs.pu (scF_s hf _)).pu (scF_f hf)) hk.push (by simp only [List.length_cons]; omega) w3 (by simpa [evs, ev1] using he)
        · have w1 : k = 7 := w1
          subst w1
          obtain ⟨a, s, rfl⟩ : ∃ a s2, s = a :: s2 := by
            cases s with
            | nil => exact absurd w2 (by simp)
            | cons a s2 => exact ⟨a, s2, rfl⟩
          have hl2 : s.length + 1 ≤ 32 := hl
          refine pE_tableIn (off := 113) (tgt := 145) dX1_valueOf_32 (by decide +kernel) (by decide +kernel) rfl (by decide) ?_
          refine pE_aload_n dX1_valueOf_145 rfl rfl ?_
          refine pE_aload_n dX1_valueOf_146 rfl rfl ?_
          refine pE_callV (d' := 0) (as := []) dX1_valueOf_147 lkX1_34 (cwX1_pop _ _) ivX1_pop ⟨_, rfl, rfl⟩ (by first | assumption | rfl) rfl rfl (Nat.le_of_ble_eq_true rfl) (by decide) pKK ?_
          refine M_X1_pop hf hk (by omega) ?_
          refine pE_if_ne (tgt := 157) dX1_valueOf_150 (by decide) (fun h150 => ?_) (fun h150 => ?_)
          · refine pE_iconst (v := nI 0) dX1_valueOf_157 rfl ?_
            refine pE_callV (d' := 0) (as := [_]) dX1_valueOf_158 lkX1_30 (cwX1_push _ _) ivX1_push ⟨_, rfl, rfl⟩ (by first | assumption | rfl) rfl rfl (Nat.le_of_ble_eq_true rfl) (by decide) pKK ?_
            refine M_X1_push hf hk.pop (by omega) ?_
            refine pE_goto (tgt := 194) dX1_valueOf_161 (by decide) ?_
            refine pE_iincN (c0 := 1) (lc' := [_, _, _, _, _, _, _, some (.int _), _, _]) dX1_valueOf_194 rfl rfl rfl rfl ?_
            refine pE_goto (tgt := 8) dX1_valueOf_197 (by decide) ?_
            exact ih (i + 1) _ _ _ _ hd2 (by omega) (((hs.pu (scF_f hf)).pu (scF_s hf _)).pu (scF_f hf)) hk.pop.push (by simp only [List.length_cons]; omega) w3 (by simpa [evs, ev1, h150] using he)
          · refine pE_iconst (v := nI 1) dX1_valueOf_153 rfl ?_
            refine pE_goto (tgt := 158) dX1_valueOf_154 (by decide) ?_
            refine pE_callV (d' := 0) (as := [_]) dX1_valueOf_158 lkX1_30 (cwX1_push _ _) ivX1_push ⟨_, rfl, rfl⟩ (by first | assumption | rfl) rfl rfl (Nat.le_of_ble_eq_true rfl) (by decide) pKK ?_
            refine M_X1_push hf hk.pop (by omega) ?_
            refine pE_goto (tgt := 194) dX1_valueOf_161 (by decide) ?_
            refine pE_iincN (c0 := 1) (lc' := [_, _, _, _, _, _, _, some (.int _), _, _]) dX1_valueOf_194 rfl rfl rfl rfl ?_
            refine pE_goto (tgt := 8) dX1_valueOf_197 (by decide) ?_
            exact ih (i + 1) _ _ _ _ hd2 (by omega) (((hs.pu (scF_f hf)).pu (scF_s hf _)).pu (scF_f hf)) hk.pop.push (by simp only [List.length_cons]; omega) w3 (by simpa [evs, ev1, h150] using he)
        · have w1 : isSg k := w1
          obtain ⟨b, a, s, rfl⟩ : ∃ b a s2, s = b :: a :: s2 := by
            match s, w2 with
            | b :: a :: s2, _ => exact ⟨b, a, s2, rfl⟩
          have hl2 : s.length + 1 + 1 ≤ 32 := hl
          have hk8 : 8 ≤ k ∧ k ≠ 0 ∧ ¬ k ≤ 6 ∧ k ≠ 7 := by rcases w1 with rfl | rfl | rfl | rfl | rfl | rfl | rfl | rfl | rfl | rfl <;> decide
          refine pE_tableOut (tgt := 164) dX1_valueOf_32 (Or.inr (by rw [nI_toInt (by omega)]; omega)) (by decide) ?_
          refine pE_aload_n dX1_valueOf_164 rfl rfl ?_
          refine pE_callV (d' := 0) (as := []) dX1_valueOf_165 lkX1_34 (cwX1_pop _ _) ivX1_pop ⟨_, rfl, rfl⟩ (by first | assumption | rfl) rfl rfl (Nat.le_of_ble_eq_true rfl) (by decide) pKK ?_
          refine M_X1_pop hf hk (by simp only [List.length_cons]; omega) ?_
          refine pE_istore (lc' := [_, _, _, _, _, _, _, _, some (.int _), _]) dX1_valueOf_168 (Nat.le_of_ble_eq_true rfl) rfl rfl ?_
          refine pE_aload_n dX1_valueOf_170 rfl rfl ?_
          refine pE_callV (d' := 0) (as := []) dX1_valueOf_171 lkX1_34 (cwX1_pop _ _) ivX1_pop ⟨_, rfl, rfl⟩ (by first | assumption | rfl) rfl rfl (Nat.le_of_ble_eq_true rfl) (by decide) pKK ?_
          refine M_X1_pop hf hk.pop (by omega) ?_
          refine pE_istore (lc' := [_, _, _, _, _, _, _, _, _, some (.int _)]) dX1_valueOf_174 (Nat.le_of_ble_eq_true rfl) rfl rfl ?_
          refine pE_aload_n dX1_valueOf_176 rfl rfl ?_
          refine pE_aload_n dX1_valueOf_177 rfl rfl ?_
          refine pE_getR dX1_valueOf_178 flX1_9 rfl (by first | assumption | rfl) (by first | assumption | rfl) ?_
          refine pE_iload dX1_valueOf_181 rfl ?_
          refine pE_ialoadN dX1_valueOf_183 (by first | assumption | rfl) (by first | assumption | omega) (by omega) ?_
          rw [pu_ne _ _ _ (by omega : f + 1 ≠ f), pu_ne _ _ _ (by omega : f + 1 ≠ f), c1]
          refine pE_iload dX1_valueOf_184 rfl ?_
          refine pE_iload dX1_valueOf_186 rfl ?_
          refine pE_callS (d' := 0) (as := [_, _, _]) dX1_valueOf_188 lkX1_38 (cwX1_joined _ _) svX1_joined rfl rfl (Nat.le_of_ble_eq_true rfl) (by decide) pKK ?_
          refine M_X1_joined w1 ?_
          refine pE_callV (d' := 0) (as := [_]) dX1_valueOf_191 lkX1_30 (cwX1_push _ _) ivX1_push ⟨_, rfl, rfl⟩ (by first | assumption | rfl) rfl rfl (Nat.le_of_ble_eq_true rfl) (by decide) pKK ?_
          refine M_X1_push hf hk.pop.pop (by omega) ?_
          refine pE_iincN (c0 := 1) (lc' := [_, _, _, _, _, _, _, some (.int _), _, _]) dX1_valueOf_194 rfl rfl rfl rfl ?_
          refine pE_goto (tgt := 8) dX1_valueOf_197 (by decide) ?_
          exact ih (i + 1) _ _ _ _ hd2 (by omega) ((((hs.pu (scF_f hf)).pu (scF_f hf)).pu (scF_s hf _)).pu (scF_f hf)) hk.pop.pop.push (by simp only [List.length_cons]; omega) w3 (by simpa [evs, ev1, hk8] using he)
set_option maxHeartbeats 4000000 in
set_option maxRecDepth 100000 in
theorem M_X1_valueOf {l : Launch} {X : pX} {t g : Nat} {I : pHI} {J : pHJ} {Q : pQ} {f : Nat} {p : pP} {x : Nat → Int32} (hf : isF f) (hF : cF f p I) (hw : wfp p 0) (hq : ∀ I1, sb I I1 → Q (some (.int (ev p x))) I1 J (pR t g)) : pM l X yX1_valueOf mX1_valueOf 1 [.ref f, .int (x 1), .int (x 2), .int (x 3), .int (x 4), .int (x 5), .int (x 6)] pK pK I J (pR t g) Q := by
  obtain ⟨fFFhf0, fFFhf1, fFFhf2, fFFhf3, fFFhf4, fFFhf5, fFFhf6⟩ := FF t g hf
  refine pM_of rfl (fun h => by cases h) rfl pKM (Nat.le_of_ble_eq_true rfl) ?_
  refine pE_aload_n dX1_valueOf_0 rfl rfl ?_
  refine pE_iconst (v := nI 0) dX1_valueOf_1 rfl ?_
  refine pE_putI dX1_valueOf_2 flX1_23 ftX1 fiX1_4 rfl rfl (by first | assumption | rfl) ?_
  refine pE_iconst (v := nI 0) dX1_valueOf_5 rfl ?_
  refine pE_istore (lc' := [_, _, _, _, _, _, _, some (.int _), _, _]) dX1_valueOf_6 (Nat.le_of_ble_eq_true rfl) rfl rfl ?_
  exact L_X1_valueOf hf hF hq p 0 [] _ none none rfl (Nat.zero_le _) (sb.rf.pu (scF_f hf)) ⟨by simp [pu_at], by simp⟩ (by simp) hw rfl
