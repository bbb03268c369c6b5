set_option maxHeartbeats 400000 in
set_option maxRecDepth 100000 in
theorem M_X12_isMore {l : Launch} {X : pX} {t g : Nat} {I : pHI} {J : pHJ} {Q : pQ} {a b c d : Nat} (ha : a < 2 ^ 31) (hb : b < 2 ^ 31) (hc : c < 2 ^ 31) (hd : d < 2 ^ 31) (h1 : isMr (a, b) (c, d) = true → Q (some (.int (nI 1))) I J (pR t g)) (h0 : ¬ isMr (a, b) (c, d) = true → Q (some (.int (nI 0))) I J (pR t g)) : pM l X yX12_isMore mX12_isMore 0 [.int (nI a), .int (nI b), .int (nI c), .int (nI d)] pK pK I J (pR t g) Q := by
  refine pM_of rfl (fun h => by cases h) rfl pKM (Nat.le_of_ble_eq_true rfl) ?_
  refine pE_iload_n dX12_isMore_0 rfl rfl ?_
  refine pE_iload_n dX12_isMore_1 rfl rfl ?_
  refine pE_icmp_gt (tgt := 15) dX12_isMore_2 (by decide) (fun h2 => ?_) (fun h2 => ?_)
  · have g2 := nq_lt (by omega) (by omega) h2
    refine pE_iconst (v := nI 1) dX12_isMore_15 rfl ?_
    refine pE_goto (tgt := 20) dX12_isMore_16 (by decide) ?_
    refine pE_zret dX12_isMore_20 rfl (by first | exact Or.inl nI_0 | exact Or.inr nI_1' | assumption) rfl ?_
    first
    | exact h1 (show isMr (a, b) (c, d) = true from decide_eq_true (Or.inl g2))
    | exact h1 (show isMr (a, b) (c, d) = true from decide_eq_true (Or.inr ⟨g7, g12⟩))
    | exact h0 (fun h => by have h : c < a ∨ (a = c ∧ b < d) := of_decide_eq_true h; omega)
  · have g2 := nq_nlt (by omega) (by omega) h2
    refine pE_iload_n dX12_isMore_5 rfl rfl ?_
    refine pE_iload_n dX12_isMore_6 rfl rfl ?_
    refine pE_icmp_ne (tgt := 19) dX12_isMore_7 (by decide) (fun h7 => ?_) (fun h7 => ?_)
    · have g7 := nq_ne (by omega) (by omega) h7
      refine pE_iconst (v := nI 0) dX12_isMore_19 rfl ?_
      refine pE_zret dX12_isMore_20 rfl (by first | exact Or.inl nI_0 | exact Or.inr nI_1' | assumption) rfl ?_
      first
      | exact h1 (show isMr (a, b) (c, d) = true from decide_eq_true (Or.inl g2))
      | exact h1 (show isMr (a, b) (c, d) = true from decide_eq_true (Or.inr ⟨g7, g12⟩))
      | exact h0 (fun h => by have h : c < a ∨ (a = c ∧ b < d) := of_decide_eq_true h; omega)
    · have g7 := nq_eq (by omega) (by omega) h7
      refine pE_iload_n dX12_isMore_10 rfl rfl ?_
      refine pE_iload_n dX12_isMore_11 rfl rfl ?_
      refine pE_icmp_ge (tgt := 19) dX12_isMore_12 (by decide) (fun h12 => ?_) (fun h12 => ?_)
      · have g12 := nq_le (by omega) (by omega) h12
        refine pE_iconst (v := nI 0) dX12_isMore_19 rfl ?_
        refine pE_zret dX12_isMore_20 rfl (by first | exact Or.inl nI_0 | exact Or.inr nI_1' | assumption) rfl ?_
        first
        | exact h1 (show isMr (a, b) (c, d) = true from decide_eq_true (Or.inl g2))
        | exact h1 (show isMr (a, b) (c, d) = true from decide_eq_true (Or.inr ⟨g7, g12⟩))
        | exact h0 (fun h => by have h : c < a ∨ (a = c ∧ b < d) := of_decide_eq_true h; omega)
      · have g12 := nq_nle (by omega) (by omega) h12
        refine pE_iconst (v := nI 1) dX12_isMore_15 rfl ?_
        refine pE_goto (tgt := 20) dX12_isMore_16 (by decide) ?_
        refine pE_zret dX12_isMore_20 rfl (by first | exact Or.inl nI_0 | exact Or.inr nI_1' | assumption) rfl ?_
        first
        | exact h1 (show isMr (a, b) (c, d) = true from decide_eq_true (Or.inl g2))
        | exact h1 (show isMr (a, b) (c, d) = true from decide_eq_true (Or.inr ⟨g7, g12⟩))
        | exact h0 (fun h => by have h : c < a ∨ (a = c ∧ b < d) := of_decide_eq_true h; omega)
set_option maxHeartbeats 400000 in
set_option maxRecDepth 100000 in
theorem LA_X12_layDoers {l : Launch} {X : pX} {t g : Nat} {I : pHI} {J : pHJ} {Q : pQ} {n : Nat} {C : Nat → Nat → Bool} {pr : Nat → Nat} {v2 v3 v4 v5 : Option Value} (h0 : I 67 42 = nI n) (h8 : n ≤ 8) (hp : ∀ t, t < n → pr t ≤ 20) (hC : mC I n C pr) (hq : ∀ I2, sD I I2 → mT I2 n C pr n → pE l X mX12_layDoers 1 pK 47 [some (.ref 67), some (.int (nI 256)), v2, v3, v4, v5] [] pK I2 J (pR t g) Q) : ∀ (fu : Nat) (j : Nat) (I1 : pHI), 256 - j < fu → (j ≤ 256) → (sD I I1) → (∀ s, s < j → I1 95 (256 * n + s) = nI 0 ∧ I1 96 (256 * n + s) = nI 0) → pE l X mX12_layDoers 1 pK 2 [some (.ref 67), some (.int (nI j)), v2, v3, v4, v5] [] pK I1 J (pR t g) Q := by
  intro fu
  induction fu with
  | zero => intro j I1 hn; exact absurd hn (Nat.not_lt_zero _)
  | succ fu ih =>
    intro j I1 hn hj hf hv
    refine pE_iload_n dX12_layDoers_2 rfl rfl ?_
    refine pE_sipush (v := nI 256) dX12_layDoers_3 rfl ?_
    refine pE_icmp_ge (tgt := 47) dX12_layDoers_6 (by decide) (fun h6 => ?_) (fun h6 => ?_)
    · have g6 := nq_le (by omega) (by omega) h6
      obtain rfl : j = 256 := by omega
      exact hq _ hf (fun s hs => by rw [bt_end]; exact hv s hs)
    · have g6 := nq_nle (by omega) (by omega) h6
      refine pE_aload_n dX12_layDoers_9 rfl rfl ?_
      refine pE_getR dX12_layDoers_10 flX12_100 rfl (by first | assumption | rfl) (by first | assumption | rfl) ?_
      refine pE_sipush (v := nI 256) dX12_layDoers_13 rfl ?_
      refine pE_aload_n dX12_layDoers_16 rfl rfl ?_
      refine pE_getI dX12_layDoers_17 flX12_350 rfl (Or.inl rfl) (by first | assumption | rfl) ?_
      rw [(hf 67 42 (by decide) (by decide)).trans h0]
      refine pE_imulN dX12_layDoers_20 ?_
      refine pE_iload_n dX12_layDoers_21 rfl rfl ?_
      refine pE_iaddN dX12_layDoers_22 ?_
      refine pE_iconst (v := nI 0) dX12_layDoers_23 rfl ?_
      refine pE_iastoreN dX12_layDoers_24 (by first | assumption | rfl) (by first | assumption | omega) (by omega) ?_
      refine pE_aload_n dX12_layDoers_25 rfl rfl ?_
      refine pE_getR dX12_layDoers_26 flX12_103 rfl (by first | assumption | rfl) (by first | assumption | rfl) ?_
      refine pE_sipush (v := nI 256) dX12_layDoers_29 rfl ?_
      refine pE_aload_n dX12_layDoers_32 rfl rfl ?_
      refine pE_getI dX12_layDoers_33 flX12_350 rfl (Or.inl rfl) (by first | assumption | rfl) ?_
      rw [(show pu I1 95 (256 * n + j) (nI 0) 67 42 = nI n by rw [pu_ne _ _ _ (by decide)]; exact (hf 67 42 (by decide) (by decide)).trans h0)]
      refine pE_imulN dX12_layDoers_36 ?_
      refine pE_iload_n dX12_layDoers_37 rfl rfl ?_
      refine pE_iaddN dX12_layDoers_38 ?_
      refine pE_iconst (v := nI 0) dX12_layDoers_39 rfl ?_
      refine pE_iastoreN dX12_layDoers_40 (by first | assumption | rfl) (by first | assumption | omega) (by omega) ?_
      refine pE_iincN (c0 := 1) (lc' := [_, some (.int _), _, _, _, _]) dX12_layDoers_41 rfl rfl rfl rfl ?_
      refine pE_goto (tgt := 2) dX12_layDoers_44 (by decide) ?_
      refine ih (j + 1) _ (by omega) (by omega) ((hf.pu (Or.inl rfl)).pu (Or.inr rfl)) (fun s hs => ?_)
      have k1 : pu (pu I1 95 (256 * n + j) (nI 0)) 96 (256 * n + j) (nI 0) 95 (256 * n + s) = if s = j then nI 0 else I1 95 (256 * n + s) := by rw [pu_ne _ _ _ (by decide), pu_at]; simp
      have k2 : pu (pu I1 95 (256 * n + j) (nI 0)) 96 (256 * n + j) (nI 0) 96 (256 * n + s) = if s = j then nI 0 else I1 96 (256 * n + s) := by rw [pu_at, pu_ne _ _ _ (by decide)]; simp
      rw [k1, k2]
      by_cases e : s = j
      · rw [if_pos e, if_pos e]; exact ⟨rfl, rfl⟩
      · rw [if_neg e, if_neg e]; exact hv s (by omega)
set_option maxHeartbeats 400000 in
set_option maxRecDepth 100000 in
theorem LD_X12_layDoers {l : Launch} {X : pX} {t g : Nat} {I : pHI} {J : pHJ} {Q : pQ} {m s : Nat} {n : Nat} {C : Nat → Nat → Bool} {pr : Nat → Nat} (h0 : I 67 42 = nI n) (h8 : n ≤ 8) (hp : ∀ t, t < n → pr t ≤ 20) (hC : mC I n C pr) (hm : m < n) (hs : s < 256) (hT : mT I n C pr (m + 1)) (hq : ∀ I2 v5, sD I I2 → (∀ k, k ≠ 256 * m + s → I2 95 k = I 95 k ∧ I2 96 k = I 96 k) → I2 95 (256 * m + s) = nI (btN C pr n m s).1 → I2 96 (256 * m + s) = nI (btN C pr n m s).2 → pE l X mX12_layDoers 1 pK 248 [some (.ref 67), some (.int (nI m)), some (.int (nI s)), some (.int (nI (256 * m + s))), some (.int (nI n)), v5] [] pK I2 J (pR t g) Q) : ∀ (fu : Nat) (j : Nat) (I1 : pHI) (v5 : Option Value), n - j < fu → (j ≤ n) → (sD I I1) → (∀ k, k ≠ 256 * m + s → I1 95 k = I 95 k ∧ I1 96 k = I 96 k) → (I1 95 (256 * m + s) = nI (bsF C pr (btN C pr n (m + 1)) m s j).1) → (I1 96 (256 * m + s) = nI (bsF C pr (btN C pr n (m + 1)) m s j).2) → pE l X mX12_layDoers 1 pK 110 [some (.ref 67), some (.int (nI m)), some (.int (nI s)), some (.int (nI (256 * m + s))), some (.int (nI j)), v5] [] pK I1 J (pR t g) Q := by
  intro fu
  induction fu with
  | zero => intro j I1 v5 hn; exact absurd hn (Nat.not_lt_zero _)
  | succ fu ih =>
    intro j I1 v5 hn hj hf hk e1 e2
    have hC1 := hC.sD hf
    have hbj := bitN_le s j
    have hbs := bs_b (C := C) (s := s) hp h8 hm j
    have hbb := bt_b (C := C) (t := m + 1) hp h8 (addB s j)
    have hpm := hp m hm
    have hab : j < 8 → addB s j < 256 := fun h => add_256 hs h
    have hT1 : addB s j < 256 → I1 95 (256 * (m + 1) + addB s j) = nI (btN C pr n (m + 1) (addB s j)).1 ∧ I1 96 (256 * (m + 1) + addB s j) = nI (btN C pr n (m + 1) (addB s j)).2 := fun h => by
      have k1 := hk (256 * (m + 1) + addB s j) (by omega)
      rw [k1.1, k1.2]
      exact hT _ h
    refine pE_iload dX12_layDoers_110 rfl ?_
    refine pE_aload_n dX12_layDoers_112 rfl rfl ?_
    refine pE_getI dX12_layDoers_113 flX12_350 rfl (Or.inl rfl) (by first | assumption | rfl) ?_
    rw [(hf 67 42 (by decide) (by decide)).trans h0]
    refine pE_icmp_ge (tgt := 248) dX12_layDoers_116 (by decide) (fun h116 => ?_) (fun h116 => ?_)
    · have g116 := nq_le (by omega) (by omega) h116
      obtain rfl : j = n := by omega
      rw [← bt_step C pr s hm] at e1 e2
      exact hq _ _ hf hk e1 e2
    · have g116 := nq_nle (by omega) (by omega) h116
      have hct := Bool.toNat_le (C m j)
      have hab2 := hab (by omega)
      refine pE_aload_n dX12_layDoers_119 rfl rfl ?_
      refine pE_getR dX12_layDoers_120 flX12_109 rfl (by first | assumption | rfl) (by first | assumption | rfl) ?_
      refine pE_bipush (v := nI 8) dX12_layDoers_123 rfl ?_
      refine pE_iload_n dX12_layDoers_125 rfl rfl ?_
      refine pE_imulN dX12_layDoers_126 ?_
      refine pE_iload dX12_layDoers_127 rfl ?_
      refine pE_iaddN dX12_layDoers_129 ?_
      refine pE_zaloadN dX12_layDoers_130 (by first | assumption | rfl) (by first | assumption | omega) (by omega) ?_
      rw [(hC1 m hm).2 j (by omega)]
      refine pE_if_eq (tgt := 242) dX12_layDoers_131 (by decide) (fun h131 => ?_) (fun h131 => ?_)
      · have g131 := nq_eq0 (by omega) h131
        have kc := toN0 g131
        refine pE_iincN (c0 := 1) (lc' := [_, _, _, _, some (.int _), _]) dX12_layDoers_242 rfl rfl rfl rfl ?_
        refine pE_goto (tgt := 110) dX12_layDoers_245 (by decide) ?_
        first
        | (have kk : ¬ C m j = true := kc
           exact ih (j + 1) I1 _ (by omega) (by omega) hf hk (by rw [bs_n (fun h => kk h.1)]; exact e1) (by rw [bs_n (fun h => kk h.1)]; exact e2))
        | (have g0 : bitN s j = 1 := g141
           exact ih (j + 1) I1 _ (by omega) (by omega) hf hk (by rw [bs_n (fun h => by have := h.2.1; omega)]; exact e1) (by rw [bs_n (fun h => by have := h.2.1; omega)]; exact e2))
        | (have g0 : bitN s j = 0 := by omega
           have kk : ¬ isMr (cdN pr (btN C pr n (m + 1)) m s j) (bsF C pr (btN C pr n (m + 1)) m s j) = true := k
           exact ih (j + 1) I1 _ (by omega) (by omega) hf hk (by rw [bs_n (fun h => kk h.2.2)]; exact e1) (by rw [bs_n (fun h => kk h.2.2)]; exact e2))
        | (have g0 : bitN s j = 0 := by omega
           have kk : isMr (cdN pr (btN C pr n (m + 1)) m s j) (bsF C pr (btN C pr n (m + 1)) m s j) = true := k1
           refine ih (j + 1) _ _ (by omega) (by omega) ((hf.pu (Or.inl rfl)).pu (Or.inr rfl)) (fun k h => ?_) ?_ ?_
           · rw [pu_ne _ _ _ (by decide : (95 : Nat) ≠ 96), pu_at, if_neg (fun q => h q.2), pu_at, if_neg (fun q => h q.2), pu_ne _ _ _ (by decide)]; exact hk k h
           · rw [pu_ne _ _ _ (by decide : (95 : Nat) ≠ 96), pu_at, if_pos ⟨rfl, rfl⟩, bs_y kc g0 kk]; rfl
           · rw [pu_at, if_pos ⟨rfl, rfl⟩, bs_y kc g0 kk]; rfl)
      · have g131 := nq_ne0 (by omega) h131
        have kc := toN1 g131
        refine pE_iload_n dX12_layDoers_134 rfl rfl ?_
        refine pE_iload dX12_layDoers_135 rfl ?_
        refine pE_ishr dX12_layDoers_137 ?_
        refine pE_iconst (v := nI 1) dX12_layDoers_138 rfl ?_
        refine pE_iand dX12_layDoers_139 ?_
        rw [sh_bit hs (by omega)]
        refine pE_iconst (v := nI 1) dX12_layDoers_140 rfl ?_
        refine pE_icmp_ne (tgt := 147) dX12_layDoers_141 (by decide) (fun h141 => ?_) (fun h141 => ?_)
        · have g141 := nq_ne (by omega) (by omega) h141
          refine pE_sipush (v := nI 256) dX12_layDoers_147 rfl ?_
          refine pE_iload_n dX12_layDoers_150 rfl rfl ?_
          refine pE_iconst (v := nI 1) dX12_layDoers_151 rfl ?_
          refine pE_iaddN dX12_layDoers_152 ?_
          refine pE_imulN dX12_layDoers_153 ?_
          refine pE_iload_n dX12_layDoers_154 rfl rfl ?_
          refine pE_iconst (v := nI 1) dX12_layDoers_155 rfl ?_
          refine pE_iload dX12_layDoers_156 rfl ?_
          refine pE_ishl dX12_layDoers_158 ?_
          refine pE_ior dX12_layDoers_159 ?_
          rw [or_bit hs (by omega)]
          refine pE_iaddN dX12_layDoers_160 ?_
          refine pE_istore (lc' := [_, _, _, _, _, some (.int _)]) dX12_layDoers_161 (Nat.le_of_ble_eq_true rfl) rfl rfl ?_
          refine pE_aload_n dX12_layDoers_163 rfl rfl ?_
          refine pE_getR dX12_layDoers_164 flX12_100 rfl (by first | assumption | rfl) (by first | assumption | rfl) ?_
          refine pE_iload dX12_layDoers_167 rfl ?_
          refine pE_ialoadN dX12_layDoers_169 (by first | assumption | rfl) (by first | assumption | omega) (by omega) ?_
          rw [(hT1 (hab (by omega))).1]
          refine pE_iconst (v := nI 1) dX12_layDoers_170 rfl ?_
          refine pE_iaddN dX12_layDoers_171 ?_
          refine pE_aload_n dX12_layDoers_172 rfl rfl ?_
          refine pE_getR dX12_layDoers_173 flX12_103 rfl (by first | assumption | rfl) (by first | assumption | rfl) ?_
          refine pE_iload dX12_layDoers_176 rfl ?_
          refine pE_ialoadN dX12_layDoers_178 (by first | assumption | rfl) (by first | assumption | omega) (by omega) ?_
          rw [(hT1 (hab (by omega))).2]
          refine pE_aload_n dX12_layDoers_179 rfl rfl ?_
          refine pE_getR dX12_layDoers_180 flX12_106 rfl (by first | assumption | rfl) (by first | assumption | rfl) ?_
          refine pE_iload_n dX12_layDoers_183 rfl rfl ?_
          refine pE_ialoadN dX12_layDoers_184 (by first | assumption | rfl) (by first | assumption | omega) (by omega) ?_
          rw [(hC1 m hm).1]
          refine pE_iaddN dX12_layDoers_185 ?_
          refine pE_aload_n dX12_layDoers_186 rfl rfl ?_
          refine pE_getR dX12_layDoers_187 flX12_100 rfl (by first | assumption | rfl) (by first | assumption | rfl) ?_
          refine pE_iload_n dX12_layDoers_190 rfl rfl ?_
          refine pE_ialoadN dX12_layDoers_191 (by first | assumption | rfl) (by first | assumption | omega) (by omega) ?_
          rw [e1]
          refine pE_aload_n dX12_layDoers_192 rfl rfl ?_
          refine pE_getR dX12_layDoers_193 flX12_103 rfl (by first | assumption | rfl) (by first | assumption | rfl) ?_
          refine pE_iload_n dX12_layDoers_196 rfl rfl ?_
          refine pE_ialoadN dX12_layDoers_197 (by first | assumption | rfl) (by first | assumption | omega) (by omega) ?_
          rw [e2]
          refine pE_callS (d' := 0) (as := [_, _, _, _]) dX12_layDoers_198 lkX12_433 (cwX12_isMore _ _) svX12_isMore rfl rfl (Nat.le_of_ble_eq_true rfl) (by decide) pKK ?_
          refine M_X12_isMore (by omega) (by omega) (by omega) (by omega) (fun k1 => ?_) (fun k => ?_)
          · refine pE_if_ne_t (tgt := 207) dX12_layDoers_201 (by decide) nI_1n0 ?_
            refine pE_aload_n dX12_layDoers_207 rfl rfl ?_
            refine pE_getR dX12_layDoers_208 flX12_100 rfl (by first | assumption | rfl) (by first | assumption | rfl) ?_
            refine pE_iload_n dX12_layDoers_211 rfl rfl ?_
            refine pE_aload_n dX12_layDoers_212 rfl rfl ?_
            refine pE_getR dX12_layDoers_213 flX12_100 rfl (by first | assumption | rfl) (by first | assumption | rfl) ?_
            refine pE_iload dX12_layDoers_216 rfl ?_
            refine pE_ialoadN dX12_layDoers_218 (by first | assumption | rfl) (by first | assumption | omega) (by omega) ?_
            rw [(hT1 (hab (by omega))).1]
            refine pE_iconst (v := nI 1) dX12_layDoers_219 rfl ?_
            refine pE_iaddN dX12_layDoers_220 ?_
            refine pE_iastoreN dX12_layDoers_221 (by first | assumption | rfl) (by first | assumption | omega) (by omega) ?_
            refine pE_aload_n dX12_layDoers_222 rfl rfl ?_
            refine pE_getR dX12_layDoers_223 flX12_103 rfl (by first | assumption | rfl) (by first | assumption | rfl) ?_
            refine pE_iload_n dX12_layDoers_226 rfl rfl ?_
            refine pE_aload_n dX12_layDoers_227 rfl rfl ?_
            refine pE_getR dX12_layDoers_228 flX12_103 rfl (by first | assumption | rfl) (by first | assumption | rfl) ?_
            refine pE_iload dX12_layDoers_231 rfl ?_
            refine pE_ialoadN dX12_layDoers_233 (by first | assumption | rfl) (by first | assumption | omega) (by omega) ?_
            rw [(show pu I1 95 (256 * m + s) (nI ((btN C pr n (m + 1) (addB s j)).1 + 1)) 96 (256 * (m + 1) + addB s j) = nI (btN C pr n (m + 1) (addB s j)).2 by rw [pu_ne _ _ _ (by decide)]; exact (hT1 (hab (by omega))).2)]
            refine pE_aload_n dX12_layDoers_234 rfl rfl ?_
            refine pE_getR dX12_layDoers_235 flX12_106 rfl (by first | assumption | rfl) (by first | assumption | rfl) ?_
            refine pE_iload_n dX12_layDoers_238 rfl rfl ?_
            refine pE_ialoadN dX12_layDoers_239 (by first | assumption | rfl) (by first | assumption | omega) (by omega) ?_
            rw [(show pu I1 95 (256 * m + s) (nI ((btN C pr n (m + 1) (addB s j)).1 + 1)) 97 m = nI (pr m) by rw [pu_ne _ _ _ (by decide)]; exact (hC1 m hm).1)]
            refine pE_iaddN dX12_layDoers_240 ?_
            refine pE_iastoreN dX12_layDoers_241 (by first | assumption | rfl) (by first | assumption | omega) (by omega) ?_
            refine pE_iincN (c0 := 1) (lc' := [_, _, _, _, some (.int _), _]) dX12_layDoers_242 rfl rfl rfl rfl ?_
            refine pE_goto (tgt := 110) dX12_layDoers_245 (by decide) ?_
            first
            | (have kk : ¬ C m j = true := kc
               exact ih (j + 1) I1 _ (by omega) (by omega) hf hk (by rw [bs_n (fun h => kk h.1)]; exact e1) (by rw [bs_n (fun h => kk h.1)]; exact e2))
            | (have g0 : bitN s j = 1 := g141
               exact ih (j + 1) I1 _ (by omega) (by omega) hf hk (by rw [bs_n (fun h => by have := h.2.1; omega)]; exact e1) (by rw [bs_n (fun h => by have := h.2.1; omega)]; exact e2))
            | (have g0 : bitN s j = 0 := by omega
               have kk : ¬ isMr (cdN pr (btN C pr n (m + 1)) m s j) (bsF C pr (btN C pr n (m + 1)) m s j) = true := k
               exact ih (j + 1) I1 _ (by omega) (by omega) hf hk (by rw [bs_n (fun h => kk h.2.2)]; exact e1) (by rw [bs_n (fun h => kk h.2.2)]; exact e2))
            | (have g0 : bitN s j = 0 := by omega
               have kk : isMr (cdN pr (btN C pr n (m + 1)) m s j) (bsF C pr (btN C pr n (m + 1)) m s j) = true := k1
               refine ih (j + 1) _ _ (by omega) (by omega) ((hf.pu (Or.inl rfl)).pu (Or.inr rfl)) (fun k h => ?_) ?_ ?_
               · rw [pu_ne _ _ _ (by decide : (95 : Nat) ≠ 96), pu_at, if_neg (fun q => h q.2), pu_at, if_neg (fun q => h q.2), pu_ne _ _ _ (by decide)]; exact hk k h
               · rw [pu_ne _ _ _ (by decide : (95 : Nat) ≠ 96), pu_at, if_pos ⟨rfl, rfl⟩, bs_y kc g0 kk]; rfl
               · rw [pu_at, if_pos ⟨rfl, rfl⟩, bs_y kc g0 kk]; rfl)
          · refine pE_if_ne_f (tgt := 207) dX12_layDoers_201 (by decide) nI_0 ?_
            refine pE_goto (tgt := 242) dX12_layDoers_204 (by decide) ?_
            refine pE_iincN (c0 := 1) (lc' := [_, _, _, _, some (.int _), _]) dX12_layDoers_242 rfl rfl rfl rfl ?_
            refine pE_goto (tgt := 110) dX12_layDoers_245 (by decide) ?_
            first
            | (have kk : ¬ C m j = true := kc
               exact ih (j + 1) I1 _ (by omega) (by omega) hf hk (by rw [bs_n (fun h => kk h.1)]; exact e1) (by rw [bs_n (fun h => kk h.1)]; exact e2))
            | (have g0 : bitN s j = 1 := g141
               exact ih (j + 1) I1 _ (by omega) (by omega) hf hk (by rw [bs_n (fun h => by have := h.2.1; omega)]; exact e1) (by rw [bs_n (fun h => by have := h.2.1; omega)]; exact e2))
            | (have g0 : bitN s j = 0 := by omega
               have kk : ¬ isMr (cdN pr (btN C pr n (m + 1)) m s j) (bsF C pr (btN C pr n (m + 1)) m s j) = true := k
               exact ih (j + 1) I1 _ (by omega) (by omega) hf hk (by rw [bs_n (fun h => kk h.2.2)]; exact e1) (by rw [bs_n (fun h => kk h.2.2)]; exact e2))
            | (have g0 : bitN s j = 0 := by omega
               have kk : isMr (cdN pr (btN C pr n (m + 1)) m s j) (bsF C pr (btN C pr n (m + 1)) m s j) = true := k1
               refine ih (j + 1) _ _ (by omega) (by omega) ((hf.pu (Or.inl rfl)).pu (Or.inr rfl)) (fun k h => ?_) ?_ ?_
               · rw [pu_ne _ _ _ (by decide : (95 : Nat) ≠ 96), pu_at, if_neg (fun q => h q.2), pu_at, if_neg (fun q => h q.2), pu_ne _ _ _ (by decide)]; exact hk k h
               · rw [pu_ne _ _ _ (by decide : (95 : Nat) ≠ 96), pu_at, if_pos ⟨rfl, rfl⟩, bs_y kc g0 kk]; rfl
               · rw [pu_at, if_pos ⟨rfl, rfl⟩, bs_y kc g0 kk]; rfl)
        · have g141 := nq_eq (by omega) (by omega) h141
          refine pE_goto (tgt := 242) dX12_layDoers_144 (by decide) ?_
          refine pE_iincN (c0 := 1) (lc' := [_, _, _, _, some (.int _), _]) dX12_layDoers_242 rfl rfl rfl rfl ?_
          refine pE_goto (tgt := 110) dX12_layDoers_245 (by decide) ?_
          first
          | (have kk : ¬ C m j = true := kc
             exact ih (j + 1) I1 _ (by omega) (by omega) hf hk (by rw [bs_n (fun h => kk h.1)]; exact e1) (by rw [bs_n (fun h => kk h.1)]; exact e2))
          | (have g0 : bitN s j = 1 := g141
             exact ih (j + 1) I1 _ (by omega) (by omega) hf hk (by rw [bs_n (fun h => by have := h.2.1; omega)]; exact e1) (by rw [bs_n (fun h => by have := h.2.1; omega)]; exact e2))
          | (have g0 : bitN s j = 0 := by omega
             have kk : ¬ isMr (cdN pr (btN C pr n (m + 1)) m s j) (bsF C pr (btN C pr n (m + 1)) m s j) = true := k
             exact ih (j + 1) I1 _ (by omega) (by omega) hf hk (by rw [bs_n (fun h => kk h.2.2)]; exact e1) (by rw [bs_n (fun h => kk h.2.2)]; exact e2))
          | (have g0 : bitN s j = 0 := by omega
             have kk : isMr (cdN pr (btN C pr n (m + 1)) m s j) (bsF C pr (btN C pr n (m + 1)) m s j) = true := k1
             refine ih (j + 1) _ _ (by omega) (by omega) ((hf.pu (Or.inl rfl)).pu (Or.inr rfl)) (fun k h => ?_) ?_ ?_
             · rw [pu_ne _ _ _ (by decide : (95 : Nat) ≠ 96), pu_at, if_neg (fun q => h q.2), pu_at, if_neg (fun q => h q.2), pu_ne _ _ _ (by decide)]; exact hk k h
             · rw [pu_ne _ _ _ (by decide : (95 : Nat) ≠ 96), pu_at, if_pos ⟨rfl, rfl⟩, bs_y kc g0 kk]; rfl
             · rw [pu_at, if_pos ⟨rfl, rfl⟩, bs_y kc g0 kk]; rfl)
set_option maxHeartbeats 400000 in
set_option maxRecDepth 100000 in
theorem LC_X12_layDoers {l : Launch} {X : pX} {t g : Nat} {I : pHI} {J : pHJ} {Q : pQ} {m : Nat} {n : Nat} {C : Nat → Nat → Bool} {pr : Nat → Nat} (h0 : I 67 42 = nI n) (h8 : n ≤ 8) (hp : ∀ t, t < n → pr t ≤ 20) (hC : mC I n C pr) (hm : m < n) (hT : ∀ a, m < a → a ≤ n → mT I n C pr a) (hq : ∀ I2 v3 v4 v5, sD I I2 → (∀ a, m ≤ a → a ≤ n → mT I2 n C pr a) → pE l X mX12_layDoers 1 pK 254 [some (.ref 67), some (.int (nI m)), some (.int (nI 256)), v3, v4, v5] [] pK I2 J (pR t g) Q) : ∀ (fu : Nat) (j : Nat) (I1 : pHI) (v3 : Option Value) (v4 : Option Value) (v5 : Option Value), 256 - j < fu → (j ≤ 256) → (sD I I1) → (∀ a, m < a → a ≤ n → mT I1 n C pr a) → (∀ s, s < j → I1 95 (256 * m + s) = nI (btN C pr n m s).1 ∧ I1 96 (256 * m + s) = nI (btN C pr n m s).2) → pE l X mX12_layDoers 1 pK 60 [some (.ref 67), some (.int (nI m)), some (.int (nI j)), v3, v4, v5] [] pK I1 J (pR t g) Q := by
  intro fu
  induction fu with
  | zero => intro j I1 v3 v4 v5 hn; exact absurd hn (Nat.not_lt_zero _)
  | succ fu ih =>
    intro j I1 v3 v4 v5 hn hj hf hT1 hv
    have hC1 := hC.sD hf
    have hTm := hT1 (m + 1) (by omega) (by omega)
    have hix : 256 * m + j + 256 = 256 * (m + 1) + j := by omega
    refine pE_iload_n dX12_layDoers_60 rfl rfl ?_
    refine pE_sipush (v := nI 256) dX12_layDoers_61 rfl ?_
    refine pE_icmp_ge (tgt := 254) dX12_layDoers_64 (by decide) (fun h64 => ?_) (fun h64 => ?_)
    · have g64 := nq_le (by omega) (by omega) h64
      obtain rfl : j = 256 := by omega
      refine hq _ _ _ _ hf (fun a h1 h2 => ?_)
      rcases Nat.lt_or_ge m a with c | c
      · exact hT1 a c h2
      · obtain rfl : a = m := by omega
        exact hv
    · have g64 := nq_nle (by omega) (by omega) h64
      refine pE_sipush (v := nI 256) dX12_layDoers_67 rfl ?_
      refine pE_iload_n dX12_layDoers_70 rfl rfl ?_
      refine pE_imulN dX12_layDoers_71 ?_
      refine pE_iload_n dX12_layDoers_72 rfl rfl ?_
      refine pE_iaddN dX12_layDoers_73 ?_
      refine pE_istore_n (lc' := [_, _, _, some (.int _), _, _]) dX12_layDoers_74 rfl (Nat.le_of_ble_eq_true rfl) rfl rfl ?_
      refine pE_aload_n dX12_layDoers_75 rfl rfl ?_
      refine pE_getR dX12_layDoers_76 flX12_100 rfl (by first | assumption | rfl) (by first | assumption | rfl) ?_
      refine pE_iload_n dX12_layDoers_79 rfl rfl ?_
      refine pE_aload_n dX12_layDoers_80 rfl rfl ?_
      refine pE_getR dX12_layDoers_81 flX12_100 rfl (by first | assumption | rfl) (by first | assumption | rfl) ?_
      refine pE_iload_n dX12_layDoers_84 rfl rfl ?_
      refine pE_sipush (v := nI 256) dX12_layDoers_85 rfl ?_
      refine pE_iaddN dX12_layDoers_88 ?_
      refine pE_ialoadN dX12_layDoers_89 (by first | assumption | rfl) (by first | assumption | omega) (by omega) ?_
      rw [hix, (hTm j (by omega)).1]
      refine pE_iastoreN dX12_layDoers_90 (by first | assumption | rfl) (by first | assumption | omega) (by omega) ?_
      refine pE_aload_n dX12_layDoers_91 rfl rfl ?_
      refine pE_getR dX12_layDoers_92 flX12_103 rfl (by first | assumption | rfl) (by first | assumption | rfl) ?_
      refine pE_iload_n dX12_layDoers_95 rfl rfl ?_
      refine pE_aload_n dX12_layDoers_96 rfl rfl ?_
      refine pE_getR dX12_layDoers_97 flX12_103 rfl (by first | assumption | rfl) (by first | assumption | rfl) ?_
      refine pE_iload_n dX12_layDoers_100 rfl rfl ?_
      refine pE_sipush (v := nI 256) dX12_layDoers_101 rfl ?_
      refine pE_iaddN dX12_layDoers_104 ?_
      refine pE_ialoadN dX12_layDoers_105 (by first | assumption | rfl) (by first | assumption | omega) (by omega) ?_
      rw [hix, show pu I1 95 (256 * m + j) (nI (btN C pr n (m + 1) j).1) 96 (256 * (m + 1) + j) = nI (btN C pr n (m + 1) j).2 by rw [pu_ne _ _ _ (by decide)]; exact (hTm j (by omega)).2]
      refine pE_iastoreN dX12_layDoers_106 (by first | assumption | rfl) (by first | assumption | omega) (by omega) ?_
      refine pE_iconst (v := nI 0) dX12_layDoers_107 rfl ?_
      refine pE_istore (lc' := [_, _, _, _, some (.int _), _]) dX12_layDoers_108 (Nat.le_of_ble_eq_true rfl) rfl rfl ?_
      have hf2 := (hf.pu (c := 95) (k := 256 * m + j) (x := nI (btN C pr n (m + 1) j).1) (Or.inl rfl)).pu (c := 96) (k := 256 * m + j) (x := nI (btN C pr n (m + 1) j).2) (Or.inr rfl)
      have hot : ∀ k, k ≠ 256 * m + j → pu (pu I1 95 (256 * m + j) (nI (btN C pr n (m + 1) j).1)) 96 (256 * m + j) (nI (btN C pr n (m + 1) j).2) 95 k = I1 95 k ∧ pu (pu I1 95 (256 * m + j) (nI (btN C pr n (m + 1) j).1)) 96 (256 * m + j) (nI (btN C pr n (m + 1) j).2) 96 k = I1 96 k := fun k h => ⟨by rw [pu_ne _ _ _ (by decide), pu_at, if_neg (fun q => h q.2)], by rw [pu_at, if_neg (fun q => h q.2), pu_ne _ _ _ (by decide)]⟩
      refine LD_X12_layDoers (I := pu (pu I1 95 (256 * m + j) (nI (btN C pr n (m + 1) j).1)) 96 (256 * m + j) (nI (btN C pr n (m + 1) j).2)) ((hf2 67 42 (by decide) (by decide)).trans h0) h8 hp (hC.sD hf2) hm (by omega) (fun s hs => by rw [(hot _ (by omega)).1, (hot _ (by omega)).2]; exact hTm s hs) (fun I2 v5' f2 k2 e1 e2 => ?_) (n + 1) 0 _ _ (by omega) (by omega) sD.rf (fun k h => ⟨rfl, rfl⟩) (by rw [pu_ne _ _ _ (by decide), pu_at, if_pos ⟨rfl, rfl⟩]; rfl) (by rw [pu_at, if_pos ⟨rfl, rfl⟩]; rfl)
      refine pE_iincN (c0 := 1) (lc' := [_, _, some (.int _), _, _, _]) dX12_layDoers_248 rfl rfl rfl rfl ?_
      refine pE_goto (tgt := 60) dX12_layDoers_251 (by decide) ?_
      refine ih (j + 1) I2 _ _ _ (by omega) (by omega) (hf2.tr f2) (fun a h1 h2 s hs => ?_) (fun s hs => ?_)
      · rw [(k2 _ (by omega)).1, (k2 _ (by omega)).2, (hot _ (by omega)).1, (hot _ (by omega)).2]; exact hT1 a h1 h2 s hs
      · by_cases e : s = j
        · subst e; exact ⟨e1, e2⟩
        · rw [(k2 _ (by omega)).1, (k2 _ (by omega)).2, (hot _ (by omega)).1, (hot _ (by omega)).2]; exact hv s (by omega)
set_option maxHeartbeats 400000 in
set_option maxRecDepth 100000 in
theorem LB_X12_layDoers {l : Launch} {X : pX} {t g : Nat} {I : pHI} {J : pHJ} {Q : pQ} {n : Nat} {C : Nat → Nat → Bool} {pr : Nat → Nat} (h0 : I 67 42 = nI n) (h8 : n ≤ 8) (hp : ∀ t, t < n → pr t ≤ 20) (hC : mC I n C pr) (hq : ∀ I2, sD I I2 → (∀ a, a ≤ n → mT I2 n C pr a) → Q none I2 J (pR t g)) : ∀ (m : Nat) (I1 : pHI) (v2 v3 v4 v5 : Option Value), m ≤ n → sD I I1 → (∀ a, m ≤ a → a ≤ n → mT I1 n C pr a) → pE l X mX12_layDoers 1 pK 54 [some (.ref 67), some (.int (nI m + -1)), v2, v3, v4, v5] [] pK I1 J (pR t g) Q := by
  intro m
  induction m with
  | zero =>
    intro I1 v2 v3 v4 v5 hm hf hT
    refine pE_iload_n dX12_layDoers_54 rfl rfl ?_
    refine pE_if_lt (tgt := 260) dX12_layDoers_55 (by decide) (fun h55 => ?_) (fun h55 => ?_)
    · refine pE_vret dX12_layDoers_260 rfl rfl ?_
      exact hq _ hf (fun a ha => hT a (Nat.zero_le _) ha)
    · exact absurd (by decide : nI 0 + -1 < 0) h55
  | succ m ih =>
    intro I1 v2 v3 v4 v5 hm hf hT
    rw [nI_dec]
    refine pE_iload_n dX12_layDoers_54 rfl rfl ?_
    refine pE_if_lt (tgt := 260) dX12_layDoers_55 (by decide) (fun h55 => ?_) (fun h55 => ?_)
    · exact absurd h55 (nI_pos (by omega))
    · refine pE_iconst (v := nI 0) dX12_layDoers_58 rfl ?_
      refine pE_istore_n (lc' := [_, _, some (.int _), _, _, _]) dX12_layDoers_59 rfl (Nat.le_of_ble_eq_true rfl) rfl rfl ?_
      refine LC_X12_layDoers (I := I1) ((hf 67 42 (by decide) (by decide)).trans h0) h8 hp (hC.sD hf) (by omega) (fun a h1 h2 => hT a (by omega) h2) (fun I2 v3' v4' v5' f2 h2 => ?_) 257 0 I1 _ _ _ (by omega) (by omega) sD.rf (fun a h1 h2 => hT a (by omega) h2) (fun s hs => by omega)
      refine pE_iinc (c0 := -1) (lc' := [_, some (.int _), _, _, _, _]) dX12_layDoers_254 rfl rfl rfl rfl ?_
      refine pE_goto (tgt := 54) dX12_layDoers_257 (by decide) ?_
      exact ih I2 _ _ _ _ (by omega) (hf.tr f2) h2
set_option maxHeartbeats 400000 in
set_option maxRecDepth 100000 in
theorem M_X12_layDoers {l : Launch} {X : pX} {t g : Nat} {I : pHI} {J : pHJ} {Q : pQ} {n : Nat} {C : Nat → Nat → Bool} {pr : Nat → Nat} (h0 : I 67 42 = nI n) (h8 : n ≤ 8) (hp : ∀ t, t < n → pr t ≤ 20) (hC : mC I n C pr) (hq : ∀ I2, sD I I2 → (∀ a, a ≤ n → mT I2 n C pr a) → Q none I2 J (pR t g)) : pM l X yX12_layDoers mX12_layDoers 1 [.ref 67] pK pK I J (pR t g) Q := by
  refine pM_of rfl (fun h => by cases h) rfl pKM (Nat.le_of_ble_eq_true rfl) ?_
  refine pE_iconst (v := nI 0) dX12_layDoers_0 rfl ?_
  refine pE_istore_n (lc' := [_, some (.int _), _, _, _, _]) dX12_layDoers_1 rfl (Nat.le_of_ble_eq_true rfl) rfl rfl ?_
  refine LA_X12_layDoers h0 h8 hp hC (fun I1 f1 h1 => ?_) 257 0 I (by omega) (by omega) sD.rf (fun s hs => by omega)
  refine pE_aload_n dX12_layDoers_47 rfl rfl ?_
  refine pE_getI dX12_layDoers_48 flX12_350 rfl (Or.inl rfl) (by first | assumption | rfl) ?_
  rw [(f1 67 42 (by decide) (by decide)).trans h0]
  refine pE_iconst (v := nI 1) dX12_layDoers_51 rfl ?_
  refine pE_isub dX12_layDoers_52 ?_
  refine pE_istore_n (lc' := [_, some (.int _), _, _, _, _]) dX12_layDoers_53 rfl (Nat.le_of_ble_eq_true rfl) rfl rfl ?_
  refine pE_cg (LB_X12_layDoers h0 h8 hp hC hq n I1 _ _ _ _ (Nat.le_refl _) f1 (fun a h2 h3 => ?_)) (by rw [Int32.sub_eq_add_neg]; rfl) rfl rfl rfl rfl
  obtain rfl : a = n := by omega
  exact h1
def sL (I I' : pHI) : Prop := ∀ c k, c ≠ 94 → ¬ (c = 67 ∧ k = 52) → I' c k = I c k
theorem sL.rf {I : pHI} : sL I I := fun _ _ _ _ => rfl
theorem sL.tr {I I1 I2 : pHI} (h1 : sL I I1) (h2 : sL I1 I2) : sL I I2 := fun c k a b => (h2 c k a b).trans (h1 c k a b)
theorem sL.pu {I I1 : pHI} {k : Nat} {x : Int32} (h : sL I I1) : sL I (pu I1 94 k x) := fun c' k' a b => by rw [pu_ne _ _ _ a]; exact h c' k' a b
theorem mC.sL {I I' : pHI} {n : Nat} {C : Nat → Nat → Bool} {pr : Nat → Nat} (h : mC I n C pr) (f : sL I I') : mC I' n C pr := fun a ha => ⟨by rw [f 97 _ (by decide) (by omega)]; exact (h a ha).1, fun b hb => by rw [f 98 _ (by decide) (by omega)]; exact (h a ha).2 b hb⟩
theorem mT.sL {I I' : pHI} {n t : Nat} {C : Nat → Nat → Bool} {pr : Nat → Nat} (h : mT I n C pr t) (f : sL I I') : mT I' n C pr t := fun s hs => by rw [f 95 _ (by decide) (by omega), f 96 _ (by decide) (by omega)]; exact h s hs
set_option maxHeartbeats 400000 in
set_option maxRecDepth 100000 in
theorem LI_X12_putDoers {l : Launch} {X : pX} {t g : Nat} {I : pHI} {J : pHJ} {Q : pQ} {a s : Nat} {n : Nat} {C : Nat → Nat → Bool} {pr : Nat → Nat} (h0 : I 67 42 = nI n) (h8 : n ≤ 8) (hp : ∀ t, t < n → pr t ≤ 20) (hC : mC I n C pr) (hT : ∀ a, a ≤ n → mT I n C pr a) (ha : a < n) (hs : s < 256) (hq : ∀ I2 v4, sL I I2 → (∀ i, i ≠ a → I2 94 i = I 94 i) → I2 94 a = oI (fstN (chP C pr n a s) n n) → pE l X mX12_putDoers 0 pK 137 [some (.ref 67), some (.int (nI s)), some (.int (nI a)), some (.int (nI 0 + -1)), v4] [] pK I2 J (pR t g) Q) : ∀ (m : Nat) (I1 : pHI) (v4 : Option Value), m ≤ n → sL I I1 → (∀ i, i ≠ a → I1 94 i = I 94 i) → I1 94 a = oI (fstN (chP C pr n a s) n (n - m)) → pE l X mX12_putDoers 0 pK 26 [some (.ref 67), some (.int (nI s)), some (.int (nI a)), some (.int (nI m + -1)), v4] [] pK I1 J (pR t g) Q := by
  intro m
  induction m with
  | zero =>
    intro I1 v4 hm hf hi he
    refine pE_iload_n dX12_putDoers_26 rfl rfl ?_
    refine pE_if_lt (tgt := 137) dX12_putDoers_27 (by decide) (fun h27 => ?_) (fun h27 => ?_)
    · exact hq _ _ hf hi he
    · exact absurd (by decide : nI 0 + -1 < 0) h27
  | succ m ih =>
    intro I1 v4 hm hf hi he
    rw [nI_dec]
    have hC1 := hC.sL hf
    have hT1 := (hT (a + 1) (by omega)).sL hf
    have hT0 := (hT a (by omega)).sL hf
    have hbj := bitN_le s m
    have hab := add_256 hs (show m < 8 by omega)
    have hb1 := bt_b (C := C) (t := a + 1) hp h8 (addB s m)
    have hb0 := bt_b (C := C) (t := a) hp h8 s
    have hpa := hp a ha
    have hct := Bool.toNat_le (C a m)
    have hst := fst_step (P := chP C pr n a s) (show m < n by omega)
    refine pE_iload_n dX12_putDoers_26 rfl rfl ?_
    refine pE_if_lt (tgt := 137) dX12_putDoers_27 (by decide) (fun h27 => ?_) (fun h27 => ?_)
    · exact absurd h27 (nI_pos (by omega))
    · refine pE_aload_n dX12_putDoers_30 rfl rfl ?_
      refine pE_getR dX12_putDoers_31 flX12_109 rfl (by first | assumption | rfl) (by first | assumption | rfl) ?_
      refine pE_bipush (v := nI 8) dX12_putDoers_34 rfl ?_
      refine pE_iload_n dX12_putDoers_36 rfl rfl ?_
      refine pE_imulN dX12_putDoers_37 ?_
      refine pE_iload_n dX12_putDoers_38 rfl rfl ?_
      refine pE_iaddN dX12_putDoers_39 ?_
      refine pE_zaloadN dX12_putDoers_40 (by first | assumption | rfl) (by first | assumption | omega) (by omega) ?_
      rw [(hC1 a ha).2 m (by omega)]
      refine pE_if_eq (tgt := 131) dX12_putDoers_41 (by decide) (fun h41 => ?_) (fun h41 => ?_)
      · have g41 := nq_eq0 (by omega) h41
        have kc := toN0 g41
        refine pE_iinc (c0 := -1) (lc' := [_, _, _, some (.int _), _]) dX12_putDoers_131 rfl rfl rfl rfl ?_
        refine pE_goto (tgt := 26) dX12_putDoers_134 (by decide) ?_
        first
        | (have kk : ¬ C a m = true := kc
           exact ih I1 _ (by omega) hf hi (by rw [hst, if_neg (ch_no (fun h => kk h.1))]; exact he))
        | (have g0 : bitN s m = 1 := g50
           exact ih I1 _ (by omega) hf hi (by rw [hst, if_neg (ch_no (fun h => by have := h.2.1; omega))]; exact he))
        | (have gg : (btN C pr n (a + 1) (addB s m)).1 + 1 ≠ (btN C pr n a s).1 := g92
           exact ih I1 _ (by omega) hf hi (by rw [hst, if_neg (ch_no (fun h => gg h.2.2.1))]; exact he))
        | (have gg : (btN C pr n (a + 1) (addB s m)).2 + pr a ≠ (btN C pr n a s).2 := g121
           exact ih I1 _ (by omega) hf hi (by rw [hst, if_neg (ch_no (fun h => gg h.2.2.2))]; exact he))
        | exact ih _ _ (by omega) hf.pu (fun i h => by rw [pu_at, if_neg (fun q => h q.2)]; exact hi i h) (by rw [hst, if_pos (ch_yes kc (by omega) g92 g121), pu_at, if_pos ⟨rfl, rfl⟩]; rfl)
      · have g41 := nq_ne0 (by omega) h41
        have kc := toN1 g41
        refine pE_iload_n dX12_putDoers_44 rfl rfl ?_
        refine pE_iload_n dX12_putDoers_45 rfl rfl ?_
        refine pE_ishr dX12_putDoers_46 ?_
        refine pE_iconst (v := nI 1) dX12_putDoers_47 rfl ?_
        refine pE_iand dX12_putDoers_48 ?_
        rw [sh_bit hs (by omega)]
        refine pE_iconst (v := nI 1) dX12_putDoers_49 rfl ?_
        refine pE_icmp_ne (tgt := 56) dX12_putDoers_50 (by decide) (fun h50 => ?_) (fun h50 => ?_)
        · have g50 := nq_ne (by omega) (by omega) h50
          refine pE_sipush (v := nI 256) dX12_putDoers_56 rfl ?_
          refine pE_iload_n dX12_putDoers_59 rfl rfl ?_
          refine pE_iconst (v := nI 1) dX12_putDoers_60 rfl ?_
          refine pE_iaddN dX12_putDoers_61 ?_
          refine pE_imulN dX12_putDoers_62 ?_
          refine pE_iload_n dX12_putDoers_63 rfl rfl ?_
          refine pE_iconst (v := nI 1) dX12_putDoers_64 rfl ?_
          refine pE_iload_n dX12_putDoers_65 rfl rfl ?_
          refine pE_ishl dX12_putDoers_66 ?_
          refine pE_ior dX12_putDoers_67 ?_
          rw [or_bit hs (by omega)]
          refine pE_iaddN dX12_putDoers_68 ?_
          refine pE_istore (lc' := [_, _, _, _, some (.int _)]) dX12_putDoers_69 (Nat.le_of_ble_eq_true rfl) rfl rfl ?_
          refine pE_aload_n dX12_putDoers_71 rfl rfl ?_
          refine pE_getR dX12_putDoers_72 flX12_100 rfl (by first | assumption | rfl) (by first | assumption | rfl) ?_
          refine pE_iload dX12_putDoers_75 rfl ?_
          refine pE_ialoadN dX12_putDoers_77 (by first | assumption | rfl) (by first | assumption | omega) (by omega) ?_
          rw [(hT1 _ hab).1]
          refine pE_iconst (v := nI 1) dX12_putDoers_78 rfl ?_
          refine pE_iaddN dX12_putDoers_79 ?_
          refine pE_aload_n dX12_putDoers_80 rfl rfl ?_
          refine pE_getR dX12_putDoers_81 flX12_100 rfl (by first | assumption | rfl) (by first | assumption | rfl) ?_
          refine pE_sipush (v := nI 256) dX12_putDoers_84 rfl ?_
          refine pE_iload_n dX12_putDoers_87 rfl rfl ?_
          refine pE_imulN dX12_putDoers_88 ?_
          refine pE_iload_n dX12_putDoers_89 rfl rfl ?_
          refine pE_iaddN dX12_putDoers_90 ?_
          refine pE_ialoadN dX12_putDoers_91 (by first | assumption | rfl) (by first | assumption | omega) (by omega) ?_
          rw [(hT0 _ hs).1]
          refine pE_icmp_ne (tgt := 131) dX12_putDoers_92 (by decide) (fun h92 => ?_) (fun h92 => ?_)
          · have g92 := nq_ne (by omega) (by omega) h92
            refine pE_iinc (c0 := -1) (lc' := [_, _, _, some (.int _), _]) dX12_putDoers_131 rfl rfl rfl rfl ?_
            refine pE_goto (tgt := 26) dX12_putDoers_134 (by decide) ?_
            first
            | (have kk : ¬ C a m = true := kc
               exact ih I1 _ (by omega) hf hi (by rw [hst, if_neg (ch_no (fun h => kk h.1))]; exact he))
            | (have g0 : bitN s m = 1 := g50
               exact ih I1 _ (by omega) hf hi (by rw [hst, if_neg (ch_no (fun h => by have := h.2.1; omega))]; exact he))
            | (have gg : (btN C pr n (a + 1) (addB s m)).1 + 1 ≠ (btN C pr n a s).1 := g92
               exact ih I1 _ (by omega) hf hi (by rw [hst, if_neg (ch_no (fun h => gg h.2.2.1))]; exact he))
            | (have gg : (btN C pr n (a + 1) (addB s m)).2 + pr a ≠ (btN C pr n a s).2 := g121
               exact ih I1 _ (by omega) hf hi (by rw [hst, if_neg (ch_no (fun h => gg h.2.2.2))]; exact he))
            | exact ih _ _ (by omega) hf.pu (fun i h => by rw [pu_at, if_neg (fun q => h q.2)]; exact hi i h) (by rw [hst, if_pos (ch_yes kc (by omega) g92 g121), pu_at, if_pos ⟨rfl, rfl⟩]; rfl)
          · have g92 := nq_eq (by omega) (by omega) h92
            refine pE_aload_n dX12_putDoers_95 rfl rfl ?_
            refine pE_getR dX12_putDoers_96 flX12_103 rfl (by first | assumption | rfl) (by first | assumption | rfl) ?_
            refine pE_iload dX12_putDoers_99 rfl ?_
            refine pE_ialoadN dX12_putDoers_101 (by first | assumption | rfl) (by first | assumption | omega) (by omega) ?_
            rw [(hT1 _ hab).2]
            refine pE_aload_n dX12_putDoers_102 rfl rfl ?_
            refine pE_getR dX12_putDoers_103 flX12_106 rfl (by first | assumption | rfl) (by first | assumption | rfl) ?_
            refine pE_iload_n dX12_putDoers_106 rfl rfl ?_
            refine pE_ialoadN dX12_putDoers_107 (by first | assumption | rfl) (by first | assumption | omega) (by omega) ?_
            rw [(hC1 a ha).1]
            refine pE_iaddN dX12_putDoers_108 ?_
            refine pE_aload_n dX12_putDoers_109 rfl rfl ?_
            refine pE_getR dX12_putDoers_110 flX12_103 rfl (by first | assumption | rfl) (by first | assumption | rfl) ?_
            refine pE_sipush (v := nI 256) dX12_putDoers_113 rfl ?_
            refine pE_iload_n dX12_putDoers_116 rfl rfl ?_
            refine pE_imulN dX12_putDoers_117 ?_
            refine pE_iload_n dX12_putDoers_118 rfl rfl ?_
            refine pE_iaddN dX12_putDoers_119 ?_
            refine pE_ialoadN dX12_putDoers_120 (by first | assumption | rfl) (by first | assumption | omega) (by omega) ?_
            rw [(hT0 _ hs).2]
            refine pE_icmp_ne (tgt := 131) dX12_putDoers_121 (by decide) (fun h121 => ?_) (fun h121 => ?_)
            · have g121 := nq_ne (by omega) (by omega) h121
              refine pE_iinc (c0 := -1) (lc' := [_, _, _, some (.int _), _]) dX12_putDoers_131 rfl rfl rfl rfl ?_
              refine pE_goto (tgt := 26) dX12_putDoers_134 (by decide) ?_
              first
              | (have kk : ¬ C a m = true := kc
                 exact ih I1 _ (by omega) hf hi (by rw [hst, if_neg (ch_no (fun h => kk h.1))]; exact he))
              | (have g0 : bitN s m = 1 := g50
                 exact ih I1 _ (by omega) hf hi (by rw [hst, if_neg (ch_no (fun h => by have := h.2.1; omega))]; exact he))
              | (have gg : (btN C pr n (a + 1) (addB s m)).1 + 1 ≠ (btN C pr n a s).1 := g92
                 exact ih I1 _ (by omega) hf hi (by rw [hst, if_neg (ch_no (fun h => gg h.2.2.1))]; exact he))
              | (have gg : (btN C pr n (a + 1) (addB s m)).2 + pr a ≠ (btN C pr n a s).2 := g121
                 exact ih I1 _ (by omega) hf hi (by rw [hst, if_neg (ch_no (fun h => gg h.2.2.2))]; exact he))
              | exact ih _ _ (by omega) hf.pu (fun i h => by rw [pu_at, if_neg (fun q => h q.2)]; exact hi i h) (by rw [hst, if_pos (ch_yes kc (by omega) g92 g121), pu_at, if_pos ⟨rfl, rfl⟩]; rfl)
            · have g121 := nq_eq (by omega) (by omega) h121
              refine pE_aload_n dX12_putDoers_124 rfl rfl ?_
              refine pE_getR dX12_putDoers_125 flX12_97 rfl (by first | assumption | rfl) (by first | assumption | rfl) ?_
              refine pE_iload_n dX12_putDoers_128 rfl rfl ?_
              refine pE_iload_n dX12_putDoers_129 rfl rfl ?_
              refine pE_iastoreN dX12_putDoers_130 (by first | assumption | rfl) (by first | assumption | omega) (by omega) ?_
              refine pE_iinc (c0 := -1) (lc' := [_, _, _, some (.int _), _]) dX12_putDoers_131 rfl rfl rfl rfl ?_
              refine pE_goto (tgt := 26) dX12_putDoers_134 (by decide) ?_
              first
              | (have kk : ¬ C a m = true := kc
                 exact ih I1 _ (by omega) hf hi (by rw [hst, if_neg (ch_no (fun h => kk h.1))]; exact he))
              | (have g0 : bitN s m = 1 := g50
                 exact ih I1 _ (by omega) hf hi (by rw [hst, if_neg (ch_no (fun h => by have := h.2.1; omega))]; exact he))
              | (have gg : (btN C pr n (a + 1) (addB s m)).1 + 1 ≠ (btN C pr n a s).1 := g92
                 exact ih I1 _ (by omega) hf hi (by rw [hst, if_neg (ch_no (fun h => gg h.2.2.1))]; exact he))
              | (have gg : (btN C pr n (a + 1) (addB s m)).2 + pr a ≠ (btN C pr n a s).2 := g121
                 exact ih I1 _ (by omega) hf hi (by rw [hst, if_neg (ch_no (fun h => gg h.2.2.2))]; exact he))
              | exact ih _ _ (by omega) hf.pu (fun i h => by rw [pu_at, if_neg (fun q => h q.2)]; exact hi i h) (by rw [hst, if_pos (ch_yes kc (by omega) g92 g121), pu_at, if_pos ⟨rfl, rfl⟩]; rfl)
        · have g50 := nq_eq (by omega) (by omega) h50
          refine pE_goto (tgt := 131) dX12_putDoers_53 (by decide) ?_
          refine pE_iinc (c0 := -1) (lc' := [_, _, _, some (.int _), _]) dX12_putDoers_131 rfl rfl rfl rfl ?_
          refine pE_goto (tgt := 26) dX12_putDoers_134 (by decide) ?_
          first
          | (have kk : ¬ C a m = true := kc
             exact ih I1 _ (by omega) hf hi (by rw [hst, if_neg (ch_no (fun h => kk h.1))]; exact he))
          | (have g0 : bitN s m = 1 := g50
             exact ih I1 _ (by omega) hf hi (by rw [hst, if_neg (ch_no (fun h => by have := h.2.1; omega))]; exact he))
          | (have gg : (btN C pr n (a + 1) (addB s m)).1 + 1 ≠ (btN C pr n a s).1 := g92
             exact ih I1 _ (by omega) hf hi (by rw [hst, if_neg (ch_no (fun h => gg h.2.2.1))]; exact he))
          | (have gg : (btN C pr n (a + 1) (addB s m)).2 + pr a ≠ (btN C pr n a s).2 := g121
             exact ih I1 _ (by omega) hf hi (by rw [hst, if_neg (ch_no (fun h => gg h.2.2.2))]; exact he))
          | exact ih _ _ (by omega) hf.pu (fun i h => by rw [pu_at, if_neg (fun q => h q.2)]; exact hi i h) (by rw [hst, if_pos (ch_yes kc (by omega) g92 g121), pu_at, if_pos ⟨rfl, rfl⟩]; rfl)
set_option maxHeartbeats 400000 in
set_option maxRecDepth 100000 in
theorem L_X12_putDoers {l : Launch} {X : pX} {t g : Nat} {I : pHI} {J : pHJ} {Q : pQ} {n : Nat} {C : Nat → Nat → Bool} {pr : Nat → Nat} (h0 : I 67 42 = nI n) (h8 : n ≤ 8) (hp : ∀ t, t < n → pr t ≤ 20) (hC : mC I n C pr) (hT : ∀ a, a ≤ n → mT I n C pr a) (hq : ∀ I2, sL I I2 → cL 67 52 94 I2 n (fun i => oI (chN C pr n i)) → Q none I2 J (pR t g)) : ∀ (fu : Nat) (j : Nat) (v3 : Option Value) (v4 : Option Value) (I1 : pHI), n - j < fu → (j ≤ n) → (sL I I1) → (∀ i, i < j → I1 94 i = oI (chN C pr n i)) → pE l X mX12_putDoers 0 pK 4 [some (.ref 67), some (.int (nI (chS C pr n j))), some (.int (nI j)), v3, v4] [] pK I1 J (pR t g) Q := by
  intro fu
  induction fu with
  | zero => intro j v3 v4 I1 hn; exact absurd hn (Nat.not_lt_zero _)
  | succ fu ih =>
    intro j v3 v4 I1 hn hj hf hv
    have hso := chS_ok (C := C) (pr := pr) h8 j
    have hp2 := p2_le h8
    have hs6 : (chS C pr n j) < 256 := by have := hso.1; omega
    have h01 : I1 67 42 = nI n := (hf 67 42 (by decide) (by omega)).trans h0
    refine pE_iload_n dX12_putDoers_4 rfl rfl ?_
    refine pE_aload_n dX12_putDoers_5 rfl rfl ?_
    refine pE_getI dX12_putDoers_6 flX12_350 rfl (Or.inl rfl) (by first | assumption | rfl) ?_
    rw [h01]
    refine pE_icmp_ge (tgt := 163) dX12_putDoers_9 (by decide) (fun h9 => ?_) (fun h9 => ?_)
    · have g9 := nq_le (by omega) (by omega) h9
      refine pE_aload_n dX12_putDoers_163 rfl rfl ?_
      refine pE_aload_n dX12_putDoers_164 rfl rfl ?_
      refine pE_getI dX12_putDoers_165 flX12_350 rfl (Or.inl rfl) (by first | assumption | rfl) ?_
      rw [h01]
      refine pE_putI dX12_putDoers_168 flX12_365 ftX12 fiX12_52 rfl rfl (by first | assumption | rfl) ?_
      refine pE_vret dX12_putDoers_171 rfl rfl ?_
      obtain rfl : j = n := by omega
      refine hq _ (fun c k a b => by rw [pu_at, if_neg b]; exact hf c k a b) ⟨by rw [pu_at, if_pos ⟨rfl, rfl⟩], h8, fun i hi => ?_⟩
      rw [pu_ne _ _ _ (by decide)]
      exact hv i hi
    · have g9 := nq_nle (by omega) (by omega) h9
      refine pE_aload_n dX12_putDoers_12 rfl rfl ?_
      refine pE_getR dX12_putDoers_13 flX12_97 rfl (by first | assumption | rfl) (by first | assumption | rfl) ?_
      refine pE_iload_n dX12_putDoers_16 rfl rfl ?_
      refine pE_iconst (v := -1) dX12_putDoers_17 rfl ?_
      refine pE_iastoreN dX12_putDoers_18 (by first | assumption | rfl) (by first | assumption | omega) (by omega) ?_
      refine pE_aload_n dX12_putDoers_19 rfl rfl ?_
      refine pE_getI dX12_putDoers_20 flX12_350 rfl (Or.inl rfl) (by first | assumption | rfl) ?_
      rw [(show pu I1 94 j (-1) 67 42 = nI n by rw [pu_ne _ _ _ (by decide)]; exact h01)]
      refine pE_iconst (v := nI 1) dX12_putDoers_23 rfl ?_
      refine pE_isub dX12_putDoers_24 ?_
      refine pE_istore_n (lc' := [_, _, _, some (.int _), _]) dX12_putDoers_25 rfl (Nat.le_of_ble_eq_true rfl) rfl rfl ?_
      have hfp : sL I (pu I1 94 j (-1)) := hf.pu
      refine pE_cg (LI_X12_putDoers (I := pu I1 94 j (-1)) (a := j) (s := (chS C pr n j)) ((hfp 67 42 (by decide) (by omega)).trans h0) h8 hp (hC.sL hfp) (fun a ha => (hT a ha).sL hfp) (by omega) hs6 (fun I2 v4' f2 g1 g3 => ?_) n _ _ (Nat.le_refl _) sL.rf (fun i h => rfl) (by rw [pu_at, if_pos ⟨rfl, rfl⟩, Nat.sub_self]; rfl)) (by rw [Int32.sub_eq_add_neg]; rfl) rfl rfl rfl rfl
      cases e : chN C pr n j with
      | none =>
        rw [show fstN (chP C pr n j (chS C pr n j)) n n = none from e] at g3
        refine pE_aload_n dX12_putDoers_137 rfl rfl ?_
        refine pE_getR dX12_putDoers_138 flX12_97 rfl (by first | assumption | rfl) (by first | assumption | rfl) ?_
        refine pE_iload_n dX12_putDoers_141 rfl rfl ?_
        refine pE_ialoadN dX12_putDoers_142 (by first | assumption | rfl) (by first | assumption | omega) (by omega) ?_
        rw [g3, show oI none = (-1 : Int32) from rfl]
        refine pE_if_lt (tgt := 157) dX12_putDoers_143 (by decide) (fun h143 => ?_) (fun h143 => ?_)
        · refine pE_iincN (c0 := 1) (lc' := [_, _, some (.int _), _, _]) dX12_putDoers_157 rfl rfl rfl rfl ?_
          refine pE_goto (tgt := 4) dX12_putDoers_160 (by decide) ?_
          refine pE_cg (ih (j + 1) _ _ I2 (by omega) (by omega) (hfp.tr f2) (fun i hi => ?_)) (by rw [chS_none e]) rfl rfl rfl rfl
          by_cases c : i = j
          · subst c; rw [g3, e]
          · rw [g1 i c, pu_at, if_neg (fun q => c q.2)]; exact hv i (by omega)
        · exact absurd m1_lt0 h143
      | some b =>
        rw [show fstN (chP C pr n j (chS C pr n j)) n n = some b from e] at g3
        have hb := (ch_some e).1
        rw [show oI (some b) = nI b from rfl] at g3
        refine pE_aload_n dX12_putDoers_137 rfl rfl ?_
        refine pE_getR dX12_putDoers_138 flX12_97 rfl (by first | assumption | rfl) (by first | assumption | rfl) ?_
        refine pE_iload_n dX12_putDoers_141 rfl rfl ?_
        refine pE_ialoadN dX12_putDoers_142 (by first | assumption | rfl) (by first | assumption | omega) (by omega) ?_
        rw [g3]
        refine pE_if_lt (tgt := 157) dX12_putDoers_143 (by decide) (fun h143 => ?_) (fun h143 => ?_)
        · exact absurd h143 (nI_pos (by omega))
        · refine pE_iload_n dX12_putDoers_146 rfl rfl ?_
          refine pE_iconst (v := nI 1) dX12_putDoers_147 rfl ?_
          refine pE_aload_n dX12_putDoers_148 rfl rfl ?_
          refine pE_getR dX12_putDoers_149 flX12_97 rfl (by first | assumption | rfl) (by first | assumption | rfl) ?_
          refine pE_iload_n dX12_putDoers_152 rfl rfl ?_
          refine pE_ialoadN dX12_putDoers_153 (by first | assumption | rfl) (by first | assumption | omega) (by omega) ?_
          rw [g3]
          refine pE_ishl dX12_putDoers_154 ?_
          refine pE_ior dX12_putDoers_155 ?_
          rw [or_bit hs6 (by omega)]
          refine pE_istore_n (lc' := [_, some (.int _), _, _, _]) dX12_putDoers_156 rfl (Nat.le_of_ble_eq_true rfl) rfl rfl ?_
          refine pE_iincN (c0 := 1) (lc' := [_, _, some (.int _), _, _]) dX12_putDoers_157 rfl rfl rfl rfl ?_
          refine pE_goto (tgt := 4) dX12_putDoers_160 (by decide) ?_
          refine pE_cg (ih (j + 1) _ _ I2 (by omega) (by omega) (hfp.tr f2) (fun i hi => ?_)) (by rw [chS_some e]) rfl rfl rfl rfl
          by_cases c : i = j
          · subst c; rw [g3, e]; rfl
          · rw [g1 i c, pu_at, if_neg (fun q => c q.2)]; exact hv i (by omega)
set_option maxHeartbeats 400000 in
set_option maxRecDepth 100000 in
theorem M_X12_putDoers {l : Launch} {X : pX} {t g : Nat} {I : pHI} {J : pHJ} {Q : pQ} {n : Nat} {C : Nat → Nat → Bool} {pr : Nat → Nat} (h0 : I 67 42 = nI n) (h8 : n ≤ 8) (hp : ∀ t, t < n → pr t ≤ 20) (hC : mC I n C pr) (hT : ∀ a, a ≤ n → mT I n C pr a) (hq : ∀ I2, sL I I2 → cL 67 52 94 I2 n (fun i => oI (chN C pr n i)) → Q none I2 J (pR t g)) : pM l X yX12_putDoers mX12_putDoers 0 [.ref 67] pK pK I J (pR t g) Q := by
  refine pM_of rfl (fun h => by cases h) rfl pKM (Nat.le_of_ble_eq_true rfl) ?_
  refine pE_iconst (v := nI 0) dX12_putDoers_0 rfl ?_
  refine pE_istore_n (lc' := [_, some (.int _), _, _, _]) dX12_putDoers_1 rfl (Nat.le_of_ble_eq_true rfl) rfl rfl ?_
  refine pE_iconst (v := nI 0) dX12_putDoers_2 rfl ?_
  refine pE_istore_n (lc' := [_, _, some (.int _), _, _]) dX12_putDoers_3 rfl (Nat.le_of_ble_eq_true rfl) rfl rfl ?_
  exact L_X12_putDoers h0 h8 hp hC hT hq (n + 1) 0 _ _ I (by omega) (by omega) sL.rf (fun i hi => by omega)
