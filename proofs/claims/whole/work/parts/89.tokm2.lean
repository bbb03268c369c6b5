set_option maxHeartbeats 400000 in
set_option maxRecDepth 100000 in
theorem L_X12_tokE {l : Launch} {X : pX} {t g : Nat} {I : pHI} {J : pHJ} {Q : pQ} {n p : Nat} {B : Nat → Nat} {m k : Nat} {v1 : Int32} {I1 : pHI} {J1 : pHJ} (hT : tpM I n B) (hp : p ≤ n) (hq : ∀ I1 J1, sMT I I1 → jM J J1 → tkM B n p I1 J1 → Q none I1 J1 (pR t g)) (hx : sMT I I1) (jx : jM J J1) (h4 : I1 67 4 = nI (tQ B n p)) (h6 : I1 67 6 = nI k) (hk : k = mKd B n p) (hk2 : k < 256) (hk3 : k = 3 ↔ tK B n p = 1) (h7 : I1 67 7 = nI (tQ B n p)) (hm : tK B n p ≠ 1 → tQ B n p + m = tE B n p) (h8 : tK B n p = 3 → I1 67 8 = nI (tV B n p)) (h9 : tK B n p = 2 → J1 67 9 = mwJ (tL B n p)) : pE l X mX12_token 2 pK 232 [some (.ref 67), some (.int v1), some (.int (nI m))] [] pK I1 J1 (pR t g) Q := by
  have hn := hT.2.1
  have hT1 := hT.sMT hx
  have hb := tE_b (B := B) hp
  have hb2 := tQ_b (B := B) hp
  refine pE_aload_n dX12_token_232 rfl rfl ?_
  refine pE_getI dX12_token_233 flX12_169 rfl (Or.inl rfl) (by first | assumption | rfl) ?_
  rw [h6]
  refine pE_iconst (v := nI 3) dX12_token_236 rfl ?_
  refine pE_icmp_eq (tgt := 250) dX12_token_237 (by decide) (fun h237 => ?_) (fun h237 => ?_)
  · have g237 := nq_eq (by omega) (by omega) h237
    refine pE_vret dX12_token_250 rfl rfl ?_
    first
    | (have h1 : tK B n p = 1 := hk3.mp (by omega)
       exact hq I1 J1 hx jx ⟨by rw [h6, hk], h7, fun z => absurd h1 z, h8, h9⟩)
    | (have h1 : tK B n p ≠ 1 := fun z => by have := hk3.mpr z; omega
       refine hq _ J1 (hx.pu (by omega)) jx ⟨?_, ?_, fun _ => ?_, fun z => ?_, h9⟩
       · rw [pu_at, if_neg (by omega), h6, hk]
       · rw [pu_at, if_neg (by omega)]; exact h7
       · rw [pu_at, if_pos ⟨rfl, rfl⟩, hm h1]
       · rw [pu_at, if_neg (by omega)]; exact h8 z)
  · have g237 := nq_ne (by omega) (by omega) h237
    refine pE_aload_n dX12_token_240 rfl rfl ?_
    refine pE_dupR dX12_token_241 ?_
    refine pE_getI dX12_token_242 flX12_149 rfl (Or.inl rfl) (by first | assumption | rfl) ?_
    rw [h4]
    refine pE_iload_n dX12_token_245 rfl rfl ?_
    refine pE_iaddN dX12_token_246 ?_
    refine pE_putI dX12_token_247 flX12_149 ftX12 fiX12_4 rfl rfl (by first | assumption | rfl) ?_
    refine pE_vret dX12_token_250 rfl rfl ?_
    first
    | (have h1 : tK B n p = 1 := hk3.mp (by omega)
       exact hq I1 J1 hx jx ⟨by rw [h6, hk], h7, fun z => absurd h1 z, h8, h9⟩)
    | (have h1 : tK B n p ≠ 1 := fun z => by have := hk3.mpr z; omega
       refine hq _ J1 (hx.pu (by omega)) jx ⟨?_, ?_, fun _ => ?_, fun z => ?_, h9⟩
       · rw [pu_at, if_neg (by omega), h6, hk]
       · rw [pu_at, if_neg (by omega)]; exact h7
       · rw [pu_at, if_pos ⟨rfl, rfl⟩, hm h1]
       · rw [pu_at, if_neg (by omega)]; exact h8 z)
set_option maxHeartbeats 400000 in
set_option maxRecDepth 100000 in
theorem L_X12_tokW {l : Launch} {X : pX} {t g : Nat} {I : pHI} {J : pHJ} {Q : pQ} {n p : Nat} {B : Nat → Nat} (hT : tpM I n B) (hp : p ≤ n) (hq : ∀ I1 J1, sMT I I1 → jM J J1 → tkM B n p I1 J1 → Q none I1 J1 (pR t g)) (hs : tS B n p = 2) : ∀ (fu : Nat) (m : Nat) (I1 : pHI) (J1 : pHJ), n - m < fu → (tQ B n p + m ≤ n) → (rE n (isSo B n 2) (tQ B n p + m) = tE B n p) → (sMT I I1) → (jM J J1) → (I1 67 4 = nI (tQ B n p)) → (I1 67 7 = nI (tQ B n p)) → (J1 67 9 = mwJ (lsB B n (tQ B n p) (tQ B n p + min m 8))) → pE l X mX12_token 2 pK 78 [some (.ref 67), some (.int (bI (tC B n p))), some (.int (nI m))] [] pK I1 J1 (pR t g) Q := by
  intro fu
  induction fu with
  | zero => intro m I1 J1 hn; exact absurd hn (Nat.not_lt_zero _)
  | succ fu ih =>
    intro m I1 J1 hn h1 hE hx jx h4 h7 h9
    have hn := hT.2.1
    have hT1 := hT.sMT hx
    have hb := tE_b (B := B) hp
    have hb2 := tQ_b (B := B) hp
    refine pE_aload_n dX12_token_78 rfl rfl ?_
    refine pE_iload_n dX12_token_79 rfl rfl ?_
    refine pE_callV (d' := 0) (as := [_]) dX12_token_80 lkX12_155 (cwX12_here _ _) ivX12_here ⟨_, rfl, rfl⟩ (by first | assumption | rfl) rfl rfl (Nat.le_of_ble_eq_true rfl) (by decide) pKK ?_
    refine M_X12_here (B := B) hT1 h4 (by omega) ?_
    refine pE_callS (d' := 0) (as := [_]) dX12_token_83 lkX12_172 (cwX12_isLetter _ _) svX12_isLetter rfl rfl (Nat.le_of_ble_eq_true rfl) (by decide) pKK ?_
    refine M_X12_isLetter (cbB_leM hT1 _) (fun g83 => ?_) (fun g83 => ?_)
    · refine pE_if_eq_f (tgt := 119) dX12_token_86 (by decide) nI_1n0 ?_
      refine pE_iload_n dX12_token_89 rfl rfl ?_
      refine pE_bipush (v := nI 8) dX12_token_90 rfl ?_
      refine pE_icmp_ge (tgt := 113) dX12_token_92 (by decide) (fun h92 => ?_) (fun h92 => ?_)
      · have g92 := nq_le (by omega) (by omega) h92
        refine pE_iincN (c0 := 1) (lc' := [_, _, some (.int _)]) dX12_token_113 rfl rfl rfl rfl ?_
        refine pE_goto (tgt := 78) dX12_token_116 (by decide) ?_
        have e1 := (rE_y (sort_in (by rw [g83]; decide)) (isS_t g83)).symm.trans hE
        have hin := sort_in (B := B) (n := n) (p := tQ B n p + m) (by rw [g83]; decide)
        first
        | (have z := g92
           refine ih (m + 1) _ _ (by omega) (by omega) e1 hx jx.pu h4 h7 ?_
           rw [pu_at, if_pos ⟨rfl, rfl⟩, show min (m + 1) 8 = m + 1 by omega, show tQ B n p + (m + 1) = tQ B n p + m + 1 by omega, lsB_s (by omega), mwJ_s, show min m 8 = m by omega])
        | (refine ih (m + 1) _ _ (by omega) (by omega) e1 hx jx h4 h7 ?_
           rw [show min (m + 1) 8 = min m 8 by omega]; exact h9)
      · have g92 := nq_nle (by omega) (by omega) h92
        refine pE_aload_n dX12_token_95 rfl rfl ?_
        refine pE_aload_n dX12_token_96 rfl rfl ?_
        refine pE_getJ dX12_token_97 flX12_162 rfl (by first | assumption | rfl) ?_
        rw [h9]
        refine pE_bipush (v := nI 8) dX12_token_100 rfl ?_
        refine pE_lshl dX12_token_102 ?_
        refine pE_aload_n dX12_token_103 rfl rfl ?_
        refine pE_iload_n dX12_token_104 rfl rfl ?_
        refine pE_callV (d' := 0) (as := [_]) dX12_token_105 lkX12_155 (cwX12_here _ _) ivX12_here ⟨_, rfl, rfl⟩ (by first | assumption | rfl) rfl rfl (Nat.le_of_ble_eq_true rfl) (by decide) pKK ?_
        refine M_X12_here (B := B) hT1 h4 (by omega) ?_
        rw [bI_n (show cbB B n (tQ B n p + m) < 256 by have := sort_2.mp g83; omega)]
        refine pE_i2l dX12_token_108 ?_
        refine pE_lor dX12_token_109 ?_
        refine pE_putJ dX12_token_110 flX12_162 ftX12 fiX12_9 rfl rfl (by first | assumption | rfl) ?_
        refine pE_iincN (c0 := 1) (lc' := [_, _, some (.int _)]) dX12_token_113 rfl rfl rfl rfl ?_
        refine pE_goto (tgt := 78) dX12_token_116 (by decide) ?_
        have e1 := (rE_y (sort_in (by rw [g83]; decide)) (isS_t g83)).symm.trans hE
        have hin := sort_in (B := B) (n := n) (p := tQ B n p + m) (by rw [g83]; decide)
        first
        | (have z := g92
           refine ih (m + 1) _ _ (by omega) (by omega) e1 hx jx.pu h4 h7 ?_
           rw [pu_at, if_pos ⟨rfl, rfl⟩, show min (m + 1) 8 = m + 1 by omega, show tQ B n p + (m + 1) = tQ B n p + m + 1 by omega, lsB_s (by omega), mwJ_s, show min m 8 = m by omega])
        | (refine ih (m + 1) _ _ (by omega) (by omega) e1 hx jx h4 h7 ?_
           rw [show min (m + 1) 8 = min m 8 by omega]; exact h9)
    · refine pE_if_eq_t (tgt := 119) dX12_token_86 (by decide) nI_0 ?_
      refine pE_aload_n dX12_token_119 rfl rfl ?_
      refine pE_iload_n dX12_token_120 rfl rfl ?_
      refine pE_bipush (v := nI 8) dX12_token_121 rfl ?_
      refine pE_icmp_le (tgt := 130) dX12_token_123 (by decide) (fun h123 => ?_) (fun h123 => ?_)
      · have g123 := nq_le (by omega) (by omega) h123
        refine pE_iconst (v := nI 1) dX12_token_130 rfl ?_
        refine pE_putI dX12_token_131 flX12_169 ftX12 fiX12_6 rfl rfl (by first | assumption | rfl) ?_
        refine pE_goto (tgt := 232) dX12_token_134 (by decide) ?_
        have ee : tQ B n p + m = tE B n p := by
          rw [← hE]
          exact (rE_n (isS_f g83)).symm
        first
        | (have hk1 : tK B n p = 1 := by unfold tK; rw [if_pos]; omega
           refine L_X12_tokE hT hp hq (m := m) (k := 3) (hx.pu (by omega)) jx (by rw [pu_at, if_neg (by omega)]; exact h4) (by rw [pu_at, if_pos ⟨rfl, rfl⟩]) ?_ (by omega) ?_ (by rw [pu_at, if_neg (by omega)]; exact h7) (fun _ => ?_) (fun z => ?_) (fun z => ?_)
           · unfold mKd; rw [hk1]; rfl
           · exact ⟨fun _ => hk1, fun _ => rfl⟩
           · exact ee
           · omega
           · omega)
        | (have hk1 : tK B n p = 2 := by unfold tK; rw [if_neg (by omega), hs]
           refine L_X12_tokE hT hp hq (m := m) (k := 1) (hx.pu (by omega)) jx (by rw [pu_at, if_neg (by omega)]; exact h4) (by rw [pu_at, if_pos ⟨rfl, rfl⟩]) ?_ (by omega) ?_ (by rw [pu_at, if_neg (by omega)]; exact h7) (fun _ => ?_) (fun z => ?_) (fun z => ?_)
           · unfold mKd; rw [hk1]; rfl
           · exact ⟨fun z => by omega, fun z => by omega⟩
           · exact ee
           · omega
           · rw [h9, show min m 8 = m by omega, ee]; rfl)
      · have g123 := nq_nle (by omega) (by omega) h123
        refine pE_iconst (v := nI 3) dX12_token_126 rfl ?_
        refine pE_goto (tgt := 131) dX12_token_127 (by decide) ?_
        refine pE_putI dX12_token_131 flX12_169 ftX12 fiX12_6 rfl rfl (by first | assumption | rfl) ?_
        refine pE_goto (tgt := 232) dX12_token_134 (by decide) ?_
        have ee : tQ B n p + m = tE B n p := by
          rw [← hE]
          exact (rE_n (isS_f g83)).symm
        first
        | (have hk1 : tK B n p = 1 := by unfold tK; rw [if_pos]; omega
           refine L_X12_tokE hT hp hq (m := m) (k := 3) (hx.pu (by omega)) jx (by rw [pu_at, if_neg (by omega)]; exact h4) (by rw [pu_at, if_pos ⟨rfl, rfl⟩]) ?_ (by omega) ?_ (by rw [pu_at, if_neg (by omega)]; exact h7) (fun _ => ?_) (fun z => ?_) (fun z => ?_)
           · unfold mKd; rw [hk1]; rfl
           · exact ⟨fun _ => hk1, fun _ => rfl⟩
           · exact ee
           · omega
           · omega)
        | (have hk1 : tK B n p = 2 := by unfold tK; rw [if_neg (by omega), hs]
           refine L_X12_tokE hT hp hq (m := m) (k := 1) (hx.pu (by omega)) jx (by rw [pu_at, if_neg (by omega)]; exact h4) (by rw [pu_at, if_pos ⟨rfl, rfl⟩]) ?_ (by omega) ?_ (by rw [pu_at, if_neg (by omega)]; exact h7) (fun _ => ?_) (fun z => ?_) (fun z => ?_)
           · unfold mKd; rw [hk1]; rfl
           · exact ⟨fun z => by omega, fun z => by omega⟩
           · exact ee
           · omega
           · rw [h9, show min m 8 = m by omega, ee]; rfl)
set_option maxHeartbeats 400000 in
set_option maxRecDepth 100000 in
theorem L_X12_tokN {l : Launch} {X : pX} {t g : Nat} {I : pHI} {J : pHJ} {Q : pQ} {n p : Nat} {B : Nat → Nat} (hT : tpM I n B) (hp : p ≤ n) (hq : ∀ I1 J1, sMT I I1 → jM J J1 → tkM B n p I1 J1 → Q none I1 J1 (pR t g)) (hs : tS B n p = 3) : ∀ (fu : Nat) (m : Nat) (I1 : pHI) (J1 : pHJ), n - m < fu → (tQ B n p + m ≤ n) → (rE n (isSo B n 3) (tQ B n p + m) = tE B n p) → (sMT I I1) → (jM J J1) → (I1 67 4 = nI (tQ B n p)) → (I1 67 7 = nI (tQ B n p)) → (I1 67 8 = nI (dvL (lsB B n (tQ B n p) (tQ B n p + min m 4)))) → pE l X mX12_token 2 pK 144 [some (.ref 67), some (.int (bI (tC B n p))), some (.int (nI m))] [] pK I1 J1 (pR t g) Q := by
  intro fu
  induction fu with
  | zero => intro m I1 J1 hn; exact absurd hn (Nat.not_lt_zero _)
  | succ fu ih =>
    intro m I1 J1 hn h1 hE hx jx h4 h7 h8
    have hn := hT.2.1
    have hT1 := hT.sMT hx
    have hb := tE_b (B := B) hp
    have hb2 := tQ_b (B := B) hp
    refine pE_aload_n dX12_token_144 rfl rfl ?_
    refine pE_iload_n dX12_token_145 rfl rfl ?_
    refine pE_callV (d' := 0) (as := [_]) dX12_token_146 lkX12_155 (cwX12_here _ _) ivX12_here ⟨_, rfl, rfl⟩ (by first | assumption | rfl) rfl rfl (Nat.le_of_ble_eq_true rfl) (by decide) pKK ?_
    refine M_X12_here (B := B) hT1 h4 (by omega) ?_
    refine pE_callS (d' := 0) (as := [_]) dX12_token_149 lkX12_176 (cwX12_isDigit _ _) svX12_isDigit rfl rfl (Nat.le_of_ble_eq_true rfl) (by decide) pKK ?_
    refine M_X12_isDigit (cbB_leM hT1 _) (fun g149 => ?_) (fun g149 => ?_)
    · refine pE_if_eq_f (tgt := 186) dX12_token_152 (by decide) nI_1n0 ?_
      refine pE_iload_n dX12_token_155 rfl rfl ?_
      refine pE_iconst (v := nI 4) dX12_token_156 rfl ?_
      refine pE_icmp_ge (tgt := 180) dX12_token_157 (by decide) (fun h157 => ?_) (fun h157 => ?_)
      · have g157 := nq_le (by omega) (by omega) h157
        refine pE_iincN (c0 := 1) (lc' := [_, _, some (.int _)]) dX12_token_180 rfl rfl rfl rfl ?_
        refine pE_goto (tgt := 144) dX12_token_183 (by decide) ?_
        have e1 := (rE_y (sort_in (by rw [g149]; decide)) (isS_t g149)).symm.trans hE
        have hin := sort_in (B := B) (n := n) (p := tQ B n p + m) (by rw [g149]; decide)
        first
        | (have z := g157
           have g4 := g3
           refine ih (m + 1) _ _ (by omega) (by omega) e1 (hx.pu (by omega)) jx (by rw [pu_at, if_neg (by omega)]; exact h4) (by rw [pu_at, if_neg (by omega)]; exact h7) ?_
           rw [pu_at, if_pos ⟨rfl, rfl⟩, show min (m + 1) 4 = m + 1 by omega, show tQ B n p + (m + 1) = tQ B n p + m + 1 by omega, lsB_s (by omega), dvL_s, show min m 4 = m by omega]
           congr 1
           omega)
        | (refine ih (m + 1) _ _ (by omega) (by omega) e1 hx jx h4 h7 ?_
           rw [show min (m + 1) 4 = min m 4 by omega]; exact h8)
      · have g157 := nq_nle (by omega) (by omega) h157
        refine pE_aload_n dX12_token_160 rfl rfl ?_
        refine pE_bipush (v := nI 10) dX12_token_161 rfl ?_
        refine pE_aload_n dX12_token_163 rfl rfl ?_
        refine pE_getI dX12_token_164 flX12_166 rfl (Or.inl rfl) (by first | assumption | rfl) ?_
        rw [h8]
        refine pE_imulN dX12_token_167 ?_
        refine pE_aload_n dX12_token_168 rfl rfl ?_
        refine pE_iload_n dX12_token_169 rfl rfl ?_
        refine pE_callV (d' := 0) (as := [_]) dX12_token_170 lkX12_155 (cwX12_here _ _) ivX12_here ⟨_, rfl, rfl⟩ (by first | assumption | rfl) rfl rfl (Nat.le_of_ble_eq_true rfl) (by decide) pKK ?_
        refine M_X12_here (B := B) hT1 h4 (by omega) ?_
        rw [bI_n (show cbB B n (tQ B n p + m) < 256 by have := sort_3.mp g149; omega)]
        refine pE_iaddN dX12_token_173 ?_
        have g3 := sort_3.mp g149
        refine pE_bipush (v := nI 48) dX12_token_174 rfl ?_
        refine pE_isubN dX12_token_176 (by omega) ?_
        refine pE_putI dX12_token_177 flX12_166 ftX12 fiX12_8 rfl rfl (by first | assumption | rfl) ?_
        refine pE_iincN (c0 := 1) (lc' := [_, _, some (.int _)]) dX12_token_180 rfl rfl rfl rfl ?_
        refine pE_goto (tgt := 144) dX12_token_183 (by decide) ?_
        have e1 := (rE_y (sort_in (by rw [g149]; decide)) (isS_t g149)).symm.trans hE
        have hin := sort_in (B := B) (n := n) (p := tQ B n p + m) (by rw [g149]; decide)
        first
        | (have z := g157
           have g4 := g3
           refine ih (m + 1) _ _ (by omega) (by omega) e1 (hx.pu (by omega)) jx (by rw [pu_at, if_neg (by omega)]; exact h4) (by rw [pu_at, if_neg (by omega)]; exact h7) ?_
           rw [pu_at, if_pos ⟨rfl, rfl⟩, show min (m + 1) 4 = m + 1 by omega, show tQ B n p + (m + 1) = tQ B n p + m + 1 by omega, lsB_s (by omega), dvL_s, show min m 4 = m by omega]
           congr 1
           omega)
        | (refine ih (m + 1) _ _ (by omega) (by omega) e1 hx jx h4 h7 ?_
           rw [show min (m + 1) 4 = min m 4 by omega]; exact h8)
    · refine pE_if_eq_t (tgt := 186) dX12_token_152 (by decide) nI_0 ?_
      refine pE_aload_n dX12_token_186 rfl rfl ?_
      refine pE_iload_n dX12_token_187 rfl rfl ?_
      refine pE_iconst (v := nI 4) dX12_token_188 rfl ?_
      refine pE_icmp_gt (tgt := 203) dX12_token_189 (by decide) (fun h189 => ?_) (fun h189 => ?_)
      · have g189 := nq_lt (by omega) (by omega) h189
        refine pE_iconst (v := nI 3) dX12_token_203 rfl ?_
        refine pE_goto (tgt := 208) dX12_token_204 (by decide) ?_
        refine pE_putI dX12_token_208 flX12_169 ftX12 fiX12_6 rfl rfl (by first | assumption | rfl) ?_
        refine pE_goto (tgt := 232) dX12_token_211 (by decide) ?_
        have ee : tQ B n p + m = tE B n p := by
          rw [← hE]
          exact (rE_n (isS_f g149)).symm
        first
        | (have hk1 : tK B n p = 1 := by
             unfold tK
             rw [if_pos]
             first
             | omega
             | (rw [← ee]; omega)
           refine L_X12_tokE hT hp hq (m := m) (k := 3) (hx.pu (by omega)) jx (by rw [pu_at, if_neg (by omega)]; exact h4) (by rw [pu_at, if_pos ⟨rfl, rfl⟩]) ?_ (by omega) ?_ (by rw [pu_at, if_neg (by omega)]; exact h7) (fun _ => ?_) (fun z => ?_) (fun z => ?_)
           · unfold mKd; rw [hk1]; rfl
           · exact ⟨fun _ => hk1, fun _ => rfl⟩
           · exact ee
           · omega
           · omega)
        | (have hk1 : tK B n p = 3 := by
             unfold tK
             rw [if_neg (by rw [← ee]; omega), hs]
           refine L_X12_tokE hT hp hq (m := m) (k := 2) (hx.pu (by omega)) jx (by rw [pu_at, if_neg (by omega)]; exact h4) (by rw [pu_at, if_pos ⟨rfl, rfl⟩]) ?_ (by omega) ?_ (by rw [pu_at, if_neg (by omega)]; exact h7) (fun _ => ?_) (fun z => ?_) (fun z => ?_)
           · unfold mKd; rw [hk1]; rfl
           · exact ⟨fun z => by omega, fun z => by omega⟩
           · exact ee
           · rw [pu_at, if_neg (by omega), h8, show min m 4 = m by omega, ee]; rfl
           · omega)
      · have g189 := nq_nlt (by omega) (by omega) h189
        refine pE_aload_n dX12_token_192 rfl rfl ?_
        refine pE_iload_n dX12_token_193 rfl rfl ?_
        refine pE_callV (d' := 0) (as := [_]) dX12_token_194 lkX12_155 (cwX12_here _ _) ivX12_here ⟨_, rfl, rfl⟩ (by first | assumption | rfl) rfl rfl (Nat.le_of_ble_eq_true rfl) (by decide) pKK ?_
        refine M_X12_here (B := B) hT1 h4 (by omega) ?_
        refine pE_callS (d' := 0) (as := [_]) dX12_token_197 lkX12_172 (cwX12_isLetter _ _) svX12_isLetter rfl rfl (Nat.le_of_ble_eq_true rfl) (by decide) pKK ?_
        refine M_X12_isLetter (cbB_leM hT1 _) (fun g197 => ?_) (fun g197 => ?_)
        · refine pE_if_eq_f (tgt := 207) dX12_token_200 (by decide) nI_1n0 ?_
          refine pE_iconst (v := nI 3) dX12_token_203 rfl ?_
          refine pE_goto (tgt := 208) dX12_token_204 (by decide) ?_
          refine pE_putI dX12_token_208 flX12_169 ftX12 fiX12_6 rfl rfl (by first | assumption | rfl) ?_
          refine pE_goto (tgt := 232) dX12_token_211 (by decide) ?_
          have ee : tQ B n p + m = tE B n p := by
            rw [← hE]
            exact (rE_n (isS_f g149)).symm
          first
          | (have hk1 : tK B n p = 1 := by
               unfold tK
               rw [if_pos]
               first
               | omega
               | (rw [← ee]; omega)
             refine L_X12_tokE hT hp hq (m := m) (k := 3) (hx.pu (by omega)) jx (by rw [pu_at, if_neg (by omega)]; exact h4) (by rw [pu_at, if_pos ⟨rfl, rfl⟩]) ?_ (by omega) ?_ (by rw [pu_at, if_neg (by omega)]; exact h7) (fun _ => ?_) (fun z => ?_) (fun z => ?_)
             · unfold mKd; rw [hk1]; rfl
             · exact ⟨fun _ => hk1, fun _ => rfl⟩
             · exact ee
             · omega
             · omega)
          | (have hk1 : tK B n p = 3 := by
               unfold tK
               rw [if_neg (by rw [← ee]; omega), hs]
             refine L_X12_tokE hT hp hq (m := m) (k := 2) (hx.pu (by omega)) jx (by rw [pu_at, if_neg (by omega)]; exact h4) (by rw [pu_at, if_pos ⟨rfl, rfl⟩]) ?_ (by omega) ?_ (by rw [pu_at, if_neg (by omega)]; exact h7) (fun _ => ?_) (fun z => ?_) (fun z => ?_)
             · unfold mKd; rw [hk1]; rfl
             · exact ⟨fun z => by omega, fun z => by omega⟩
             · exact ee
             · rw [pu_at, if_neg (by omega), h8, show min m 4 = m by omega, ee]; rfl
             · omega)
        · refine pE_if_eq_t (tgt := 207) dX12_token_200 (by decide) nI_0 ?_
          refine pE_iconst (v := nI 2) dX12_token_207 rfl ?_
          refine pE_putI dX12_token_208 flX12_169 ftX12 fiX12_6 rfl rfl (by first | assumption | rfl) ?_
          refine pE_goto (tgt := 232) dX12_token_211 (by decide) ?_
          have ee : tQ B n p + m = tE B n p := by
            rw [← hE]
            exact (rE_n (isS_f g149)).symm
          first
          | (have hk1 : tK B n p = 1 := by
               unfold tK
               rw [if_pos]
               first
               | omega
               | (rw [← ee]; omega)
             refine L_X12_tokE hT hp hq (m := m) (k := 3) (hx.pu (by omega)) jx (by rw [pu_at, if_neg (by omega)]; exact h4) (by rw [pu_at, if_pos ⟨rfl, rfl⟩]) ?_ (by omega) ?_ (by rw [pu_at, if_neg (by omega)]; exact h7) (fun _ => ?_) (fun z => ?_) (fun z => ?_)
             · unfold mKd; rw [hk1]; rfl
             · exact ⟨fun _ => hk1, fun _ => rfl⟩
             · exact ee
             · omega
             · omega)
          | (have hk1 : tK B n p = 3 := by
               unfold tK
               rw [if_neg (by rw [← ee]; omega), hs]
             refine L_X12_tokE hT hp hq (m := m) (k := 2) (hx.pu (by omega)) jx (by rw [pu_at, if_neg (by omega)]; exact h4) (by rw [pu_at, if_pos ⟨rfl, rfl⟩]) ?_ (by omega) ?_ (by rw [pu_at, if_neg (by omega)]; exact h7) (fun _ => ?_) (fun z => ?_) (fun z => ?_)
             · unfold mKd; rw [hk1]; rfl
             · exact ⟨fun z => by omega, fun z => by omega⟩
             · exact ee
             · rw [pu_at, if_neg (by omega), h8, show min m 4 = m by omega, ee]; rfl
             · omega)
set_option maxHeartbeats 400000 in
set_option maxRecDepth 100000 in
theorem L_X12_tokB {l : Launch} {X : pX} {t g : Nat} {I : pHI} {J : pHJ} {Q : pQ} {n p : Nat} {B : Nat → Nat} {I1 : pHI} (hT : tpM I n B) (hp : p ≤ n) (hq : ∀ I1 J1, sMT I I1 → jM J J1 → tkM B n p I1 J1 → Q none I1 J1 (pR t g)) (hx : sMT I I1) (h4 : I1 67 4 = nI (tQ B n p)) : pE l X mX12_token 2 pK 33 [some (.ref 67), none, none] [] pK I1 J (pR t g) Q := by
  have hn := hT.2.1
  have hT1 := hT.sMT hx
  have hb := tE_b (B := B) hp
  have hb2 := tQ_b (B := B) hp
  have hc := cbB_leM hT1 (tQ B n p)
  have hT2 := hT1.sMT (sMT.rf.pu (k := 7) (x := nI (tQ B n p)) (by omega))
  refine pE_aload_n dX12_token_33 rfl rfl ?_
  refine pE_aload_n dX12_token_34 rfl rfl ?_
  refine pE_getI dX12_token_35 flX12_149 rfl (Or.inl rfl) (by first | assumption | rfl) ?_
  rw [h4]
  refine pE_putI dX12_token_38 flX12_159 ftX12 fiX12_7 rfl rfl (by first | assumption | rfl) ?_
  refine pE_aload_n dX12_token_41 rfl rfl ?_
  refine pE_iconst (v := nI 0) dX12_token_42 rfl ?_
  refine pE_callV (d' := 0) (as := [_]) dX12_token_43 lkX12_155 (cwX12_here _ _) ivX12_here ⟨_, rfl, rfl⟩ (by first | assumption | rfl) rfl rfl (Nat.le_of_ble_eq_true rfl) (by decide) pKK ?_
  refine M_X12_here (B := B) (k := 0) hT2 (by rw [pu_at, if_neg (by omega)]; exact h4) (by omega) ?_
  rw [show cbB B n (tQ B n p + 0) = tC B n p from rfl]
  refine pE_istore_n (lc' := [_, some (.int _), _]) dX12_token_46 rfl (Nat.le_of_ble_eq_true rfl) rfl rfl ?_
  refine pE_iconst (v := nI 0) dX12_token_47 rfl ?_
  refine pE_istore_n (lc' := [_, _, some (.int _)]) dX12_token_48 rfl (Nat.le_of_ble_eq_true rfl) rfl rfl ?_
  refine pE_aload_n dX12_token_49 rfl rfl ?_
  refine pE_lconst (v := 0) dX12_token_50 rfl ?_
  refine pE_putJ dX12_token_51 flX12_162 ftX12 fiX12_9 rfl rfl (by first | assumption | rfl) ?_
  refine pE_aload_n dX12_token_54 rfl rfl ?_
  refine pE_iconst (v := nI 0) dX12_token_55 rfl ?_
  refine pE_putI dX12_token_56 flX12_166 ftX12 fiX12_8 rfl rfl (by first | assumption | rfl) ?_
  refine pE_iload_n dX12_token_59 rfl rfl ?_
  refine pE_if_ge (tgt := 71) dX12_token_60 (by decide) (fun h60 => ?_) (fun h60 => ?_)
  · have g59 : tC B n p < 256 := (bI_ge hc).mp h60
    refine pE_iload_n dX12_token_71 rfl rfl ?_
    refine pE_callS (d' := 0) (as := [_]) dX12_token_72 lkX12_172 (cwX12_isLetter _ _) svX12_isLetter rfl rfl (Nat.le_of_ble_eq_true rfl) (by decide) pKK ?_
    refine M_X12_isLetter hc (fun g72 => ?_) (fun g72 => ?_)
    · refine pE_if_eq_f (tgt := 137) dX12_token_75 (by decide) nI_1n0 ?_
      have hs : tS B n p = 2 := g72
      exact L_X12_tokW hT hp hq g72 (n + 1) 0 _ _ (by omega) (by omega) (by rw [Nat.add_zero]; unfold tE; rw [if_pos (Or.inl hs), hs]) ((hx.pu (by omega)).pu (by omega)) jM.rf.pu (by simp only [pu_at]; exact h4) (by simp only [pu_at]; rfl) (by rw [Nat.zero_min, Nat.add_zero, lsB_0]; simp only [pu_at]; rfl)
    · refine pE_if_eq_t (tgt := 137) dX12_token_75 (by decide) nI_0 ?_
      refine pE_iload_n dX12_token_137 rfl rfl ?_
      refine pE_callS (d' := 0) (as := [_]) dX12_token_138 lkX12_176 (cwX12_isDigit _ _) svX12_isDigit rfl rfl (Nat.le_of_ble_eq_true rfl) (by decide) pKK ?_
      refine M_X12_isDigit hc (fun g138 => ?_) (fun g138 => ?_)
      · refine pE_if_eq_f (tgt := 214) dX12_token_141 (by decide) nI_1n0 ?_
        have hs : tS B n p = 3 := g138
        exact L_X12_tokN hT hp hq g138 (n + 1) 0 _ _ (by omega) (by omega) (by rw [Nat.add_zero]; unfold tE; rw [if_pos (Or.inr hs), hs]) ((hx.pu (by omega)).pu (by omega)) jM.rf.pu (by simp only [pu_at]; exact h4) (by simp only [pu_at]; rfl) (by rw [Nat.zero_min, Nat.add_zero, lsB_0]; simp only [pu_at]; rfl)
      · refine pE_if_eq_t (tgt := 214) dX12_token_141 (by decide) nI_0 ?_
        refine pE_iconst (v := nI 1) dX12_token_214 rfl ?_
        refine pE_istore_n (lc' := [_, _, some (.int _)]) dX12_token_215 rfl (Nat.le_of_ble_eq_true rfl) rfl rfl ?_
        refine pE_aload_n dX12_token_216 rfl rfl ?_
        refine pE_iload_n dX12_token_217 rfl rfl ?_
        rw [bI_n g59]
        refine pE_callS (d' := 0) (as := [_]) dX12_token_218 lkX12_179 (cwX12_isSign _ _) svX12_isSign rfl rfl (Nat.le_of_ble_eq_true rfl) (by decide) pKK ?_
        refine M_X12_isSign g59 (fun g218 => ?_) (fun g218 => ?_)
        · refine pE_if_eq_f (tgt := 228) dX12_token_221 (by decide) nI_1n0 ?_
          refine pE_iload_n dX12_token_224 rfl rfl ?_
          refine pE_goto (tgt := 229) dX12_token_225 (by decide) ?_
          refine pE_putI dX12_token_229 flX12_169 ftX12 fiX12_6 rfl rfl (by first | assumption | rfl) ?_
          first
          | (have z := hk0
             refine L_X12_tokE hT hp hq (m := 0) (k := 0) (((hx.pu (by omega)).pu (by omega)).pu (by omega)) jM.rf.pu (by simp only [pu_at]; exact h4) (by simp only [pu_at]; rfl) ?_ ?_ ?_ (by simp only [pu_at]; rfl) ?_ ?_ ?_
             · unfold mKd; rw [hk0]; rfl
             · omega
             · omega
             · intro _; unfold tE; rw [hs0]; rfl
             · intro z; omega
             · intro z; omega)
          | (have z := g218
             have hsx : tS B n p = 4 := sort_4.mpr z
             have hk1 : tK B n p = 4 := tK_of4 z
             have hlt := sgB_lt z
             refine L_X12_tokE hT hp hq (m := 1) (k := tC B n p) (((hx.pu (by omega)).pu (by omega)).pu (by omega)) jM.rf.pu (by simp only [pu_at]; exact h4) (by simp only [pu_at]; rfl) ?_ ?_ ?_ (by simp only [pu_at]; rfl) ?_ ?_ ?_
             · unfold mKd; rw [hk1]; rfl
             · omega
             · omega
             · intro _; unfold tE; rw [hsx]; rfl
             · intro z; omega
             · intro z; omega)
          | (have hs5 := hb2.2.2
             have h0 : tS B n p ≠ 0 := fun z => by have e0 : tC B n p = 256 := sort_0 z; omega
             have hs4 : tS B n p ≠ 4 := fun z => g218 (sort_4.mp z)
             have hs2 : tS B n p ≠ 2 := g72
             have hs3 : tS B n p ≠ 3 := g138
             have hle := tS_le (B := B) hp
             have hsx : tS B n p = 1 := by omega
             have hk1 : tK B n p = 1 := by unfold tK; rw [hsx]; rfl
             refine L_X12_tokE hT hp hq (m := 1) (k := 3) (((hx.pu (by omega)).pu (by omega)).pu (by omega)) jM.rf.pu (by simp only [pu_at]; exact h4) (by simp only [pu_at]; rfl) ?_ ?_ ?_ (by simp only [pu_at]; rfl) ?_ ?_ ?_
             · unfold mKd; rw [hk1]; rfl
             · omega
             · omega
             · intro z; exact absurd hk1 z
             · intro z; omega
             · intro z; omega)
        · refine pE_if_eq_t (tgt := 228) dX12_token_221 (by decide) nI_0 ?_
          refine pE_iconst (v := nI 3) dX12_token_228 rfl ?_
          refine pE_putI dX12_token_229 flX12_169 ftX12 fiX12_6 rfl rfl (by first | assumption | rfl) ?_
          first
          | (have z := hk0
             refine L_X12_tokE hT hp hq (m := 0) (k := 0) (((hx.pu (by omega)).pu (by omega)).pu (by omega)) jM.rf.pu (by simp only [pu_at]; exact h4) (by simp only [pu_at]; rfl) ?_ ?_ ?_ (by simp only [pu_at]; rfl) ?_ ?_ ?_
             · unfold mKd; rw [hk0]; rfl
             · omega
             · omega
             · intro _; unfold tE; rw [hs0]; rfl
             · intro z; omega
             · intro z; omega)
          | (have z := g218
             have hsx : tS B n p = 4 := sort_4.mpr z
             have hk1 : tK B n p = 4 := tK_of4 z
             have hlt := sgB_lt z
             refine L_X12_tokE hT hp hq (m := 1) (k := tC B n p) (((hx.pu (by omega)).pu (by omega)).pu (by omega)) jM.rf.pu (by simp only [pu_at]; exact h4) (by simp only [pu_at]; rfl) ?_ ?_ ?_ (by simp only [pu_at]; rfl) ?_ ?_ ?_
             · unfold mKd; rw [hk1]; rfl
             · omega
             · omega
             · intro _; unfold tE; rw [hsx]; rfl
             · intro z; omega
             · intro z; omega)
          | (have hs5 := hb2.2.2
             have h0 : tS B n p ≠ 0 := fun z => by have e0 : tC B n p = 256 := sort_0 z; omega
             have hs4 : tS B n p ≠ 4 := fun z => g218 (sort_4.mp z)
             have hs2 : tS B n p ≠ 2 := g72
             have hs3 : tS B n p ≠ 3 := g138
             have hle := tS_le (B := B) hp
             have hsx : tS B n p = 1 := by omega
             have hk1 : tK B n p = 1 := by unfold tK; rw [hsx]; rfl
             refine L_X12_tokE hT hp hq (m := 1) (k := 3) (((hx.pu (by omega)).pu (by omega)).pu (by omega)) jM.rf.pu (by simp only [pu_at]; exact h4) (by simp only [pu_at]; rfl) ?_ ?_ ?_ (by simp only [pu_at]; rfl) ?_ ?_ ?_
             · unfold mKd; rw [hk1]; rfl
             · omega
             · omega
             · intro z; exact absurd hk1 z
             · intro z; omega
             · intro z; omega)
  · have g59 : tC B n p = 256 := by
      rcases Nat.lt_or_ge (tC B n p) 256 with z | z
      · exact absurd ((bI_ge hc).mpr z) h60
      · exact Nat.le_antisymm hc z
    have hs0 : tS B n p = 0 := by show sortC (tC B n p) = 0; rw [g59]; rfl
    have hk0 : tK B n p = 0 := tK_0.mpr hs0
    refine pE_aload_n dX12_token_63 rfl rfl ?_
    refine pE_iconst (v := nI 0) dX12_token_64 rfl ?_
    refine pE_putI dX12_token_65 flX12_169 ftX12 fiX12_6 rfl rfl (by first | assumption | rfl) ?_
    refine pE_goto (tgt := 232) dX12_token_68 (by decide) ?_
    first
    | (have z := hk0
       refine L_X12_tokE hT hp hq (m := 0) (k := 0) (((hx.pu (by omega)).pu (by omega)).pu (by omega)) jM.rf.pu (by simp only [pu_at]; exact h4) (by simp only [pu_at]; rfl) ?_ ?_ ?_ (by simp only [pu_at]; rfl) ?_ ?_ ?_
       · unfold mKd; rw [hk0]; rfl
       · omega
       · omega
       · intro _; unfold tE; rw [hs0]; rfl
       · intro z; omega
       · intro z; omega)
    | (have z := g218
       have hsx : tS B n p = 4 := sort_4.mpr z
       have hk1 : tK B n p = 4 := tK_of4 z
       have hlt := sgB_lt z
       refine L_X12_tokE hT hp hq (m := 1) (k := tC B n p) (((hx.pu (by omega)).pu (by omega)).pu (by omega)) jM.rf.pu (by simp only [pu_at]; exact h4) (by simp only [pu_at]; rfl) ?_ ?_ ?_ (by simp only [pu_at]; rfl) ?_ ?_ ?_
       · unfold mKd; rw [hk1]; rfl
       · omega
       · omega
       · intro _; unfold tE; rw [hsx]; rfl
       · intro z; omega
       · intro z; omega)
    | (have hs5 := hb2.2.2
       have h0 : tS B n p ≠ 0 := fun z => by have e0 : tC B n p = 256 := sort_0 z; omega
       have hs4 : tS B n p ≠ 4 := fun z => g218 (sort_4.mp z)
       have hs2 : tS B n p ≠ 2 := g72
       have hs3 : tS B n p ≠ 3 := g138
       have hle := tS_le (B := B) hp
       have hsx : tS B n p = 1 := by omega
       have hk1 : tK B n p = 1 := by unfold tK; rw [hsx]; rfl
       refine L_X12_tokE hT hp hq (m := 1) (k := 3) (((hx.pu (by omega)).pu (by omega)).pu (by omega)) jM.rf.pu (by simp only [pu_at]; exact h4) (by simp only [pu_at]; rfl) ?_ ?_ ?_ (by simp only [pu_at]; rfl) ?_ ?_ ?_
       · unfold mKd; rw [hk1]; rfl
       · omega
       · omega
       · intro z; exact absurd hk1 z
       · intro z; omega
       · intro z; omega)
set_option maxHeartbeats 400000 in
set_option maxRecDepth 100000 in
theorem L_X12_tokA {l : Launch} {X : pX} {t g : Nat} {I : pHI} {J : pHJ} {Q : pQ} {n p : Nat} {B : Nat → Nat} (hT : tpM I n B) (hp : p ≤ n) (hq : ∀ I1 J1, sMT I I1 → jM J J1 → tkM B n p I1 J1 → Q none I1 J1 (pR t g)) : ∀ (fu : Nat) (r : Nat) (I1 : pHI), n - r < fu → (r ≤ n) → (I1 67 4 = nI r) → (sMT I I1) → (tQ B n r = tQ B n p) → pE l X mX12_token 2 pK 0 [some (.ref 67), none, none] [] pK I1 J (pR t g) Q := by
  intro fu
  induction fu with
  | zero => intro r I1 hn; exact absurd hn (Nat.not_lt_zero _)
  | succ fu ih =>
    intro r I1 hn h1 h4 hx hQ
    have hn := hT.2.1
    have hT1 := hT.sMT hx
    have hc := cbB_leM hT1 r
    refine pE_aload_n dX12_token_0 rfl rfl ?_
    refine pE_iconst (v := nI 0) dX12_token_1 rfl ?_
    refine pE_callV (d' := 0) (as := [_]) dX12_token_2 lkX12_155 (cwX12_here _ _) ivX12_here ⟨_, rfl, rfl⟩ (by first | assumption | rfl) rfl rfl (Nat.le_of_ble_eq_true rfl) (by decide) pKK ?_
    refine M_X12_here (B := B) (k := 0) hT1 h4 (by omega) ?_
    rw [Nat.add_zero]
    refine pE_bipush (v := nI 32) dX12_token_5 rfl ?_
    refine pE_icmp_eq (tgt := 20) dX12_token_7 (by decide) (fun h7 => ?_) (fun h7 => ?_)
    · refine pE_aload_n dX12_token_20 rfl rfl ?_
      refine pE_dupR dX12_token_21 ?_
      refine pE_getI dX12_token_22 flX12_149 rfl (Or.inl rfl) (by first | assumption | rfl) ?_
      rw [h4]
      refine pE_iconst (v := nI 1) dX12_token_25 rfl ?_
      refine pE_iaddN dX12_token_26 ?_
      refine pE_putI dX12_token_27 flX12_149 ftX12 fiX12_4 rfl rfl (by first | assumption | rfl) ?_
      refine pE_goto (tgt := 0) dX12_token_30 (by decide) ?_
      have g5 : sortC (cbB B n r) = 5 := sort_5.mpr (by
        first
        | exact Or.inl ((bI_eq hc (by omega)).mp h7)
        | exact Or.inr ((bI_eq hc (by omega)).mp h17))
      have hin := sort_in (B := B) (n := n) (p := r) (by rw [g5]; decide)
      exact ih (r + 1) _ (by omega) (by omega) (by rw [pu_at, if_pos ⟨rfl, rfl⟩]) (hx.pu (by omega)) ((rE_y hin (isS_t g5)).symm.trans hQ)
    · refine pE_aload_n dX12_token_10 rfl rfl ?_
      refine pE_iconst (v := nI 0) dX12_token_11 rfl ?_
      refine pE_callV (d' := 0) (as := [_]) dX12_token_12 lkX12_155 (cwX12_here _ _) ivX12_here ⟨_, rfl, rfl⟩ (by first | assumption | rfl) rfl rfl (Nat.le_of_ble_eq_true rfl) (by decide) pKK ?_
      refine M_X12_here (B := B) (k := 0) hT1 h4 (by omega) ?_
      rw [Nat.add_zero]
      refine pE_bipush (v := nI 10) dX12_token_15 rfl ?_
      refine pE_icmp_ne (tgt := 33) dX12_token_17 (by decide) (fun h17 => ?_) (fun h17 => ?_)
      · have e1 : tQ B n r = r := rE_n (isS_f (fun z => by
          rcases sort_5.mp z with a | a
          · exact h7 ((bI_eq hc (by omega)).mpr a)
          · exact h17 ((bI_eq hc (by omega)).mpr a)))
        exact L_X12_tokB hT hp hq hx (by rw [h4, ← hQ, e1])
      · refine pE_aload_n dX12_token_20 rfl rfl ?_
        refine pE_dupR dX12_token_21 ?_
        refine pE_getI dX12_token_22 flX12_149 rfl (Or.inl rfl) (by first | assumption | rfl) ?_
        rw [h4]
        refine pE_iconst (v := nI 1) dX12_token_25 rfl ?_
        refine pE_iaddN dX12_token_26 ?_
        refine pE_putI dX12_token_27 flX12_149 ftX12 fiX12_4 rfl rfl (by first | assumption | rfl) ?_
        refine pE_goto (tgt := 0) dX12_token_30 (by decide) ?_
        have g5 : sortC (cbB B n r) = 5 := sort_5.mpr (by
          first
          | exact Or.inl ((bI_eq hc (by omega)).mp h7)
          | exact Or.inr ((bI_eq hc (by omega)).mp h17))
        have hin := sort_in (B := B) (n := n) (p := r) (by rw [g5]; decide)
        exact ih (r + 1) _ (by omega) (by omega) (by rw [pu_at, if_pos ⟨rfl, rfl⟩]) (hx.pu (by omega)) ((rE_y hin (isS_t g5)).symm.trans hQ)
set_option maxHeartbeats 400000 in
set_option maxRecDepth 100000 in
theorem M_X12_token {l : Launch} {X : pX} {t g : Nat} {I : pHI} {J : pHJ} {Q : pQ} {n p : Nat} {B : Nat → Nat} (hT : tpM I n B) (hp : p ≤ n) (hq : ∀ I1 J1, sMT I I1 → jM J J1 → tkM B n p I1 J1 → Q none I1 J1 (pR t g)) (h4 : I 67 4 = nI p) : pM l X yX12_token mX12_token 2 [.ref 67] pK pK I J (pR t g) Q := by
  refine pM_of rfl (fun h => by cases h) rfl pKM (Nat.le_of_ble_eq_true rfl) ?_
  exact L_X12_tokA hT hp hq (n - p + 1) p I (by omega) hp h4 sMT.rf rfl
