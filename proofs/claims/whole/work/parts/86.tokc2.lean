def tkC (B : Nat → Nat) (n p : Nat) (I : pHI) (J : pHJ) : Prop := I 4 2 = nI (tK B n p) ∧ I 4 3 = nI (tQ B n p) ∧ I 4 4 = nI (tE B n p) ∧ (tK B n p = 3 → I 4 5 = nI (tV B n p)) ∧ I 4 6 = bI (tC B n p) ∧ (tK B n p = 2 → J 4 7 = cwJ (tL B n p))
/-- within the token, so far as e -/
def tkQ (B : Nat → Nat) (n p e : Nat) (I : pHI) (J : pHJ) : Prop := I 4 2 = nI (tS B n p) ∧ I 4 3 = nI (tQ B n p) ∧ I 4 4 = nI e ∧ I 4 5 = cvI (lsB B n (tQ B n p) e) ∧ I 4 6 = bI (tC B n p) ∧ J 4 7 = cwJ (lsB B n (tQ B n p) e)
theorem tkQ.next {B : Nat → Nat} {n p e : Nat} {I : pHI} {J : pHJ} (h : tkQ B n p e I J) (hq : tQ B n p ≤ e) : tkQ B n p (e + 1) (pu (pu I 4 5 (cvI (lsB B n (tQ B n p) e) * nI 10 + nI (cbB B n e) - nI 48)) 4 4 (nI (e + 1))) (pu J 4 7 (cwJ (lsB B n (tQ B n p) e) * 32 + (nI (cbB B n e) - nI 97 + nI 1).toInt64)) := by
  obtain ⟨a, b, c, d, f, g⟩ := h
  refine ⟨?_, ?_, ?_, ?_, ?_, ?_⟩
  · rw [pu_at, if_neg (by omega), pu_at, if_neg (by omega)]; exact a
  · rw [pu_at, if_neg (by omega), pu_at, if_neg (by omega)]; exact b
  · rw [pu_at, if_pos ⟨rfl, rfl⟩]
  · rw [pu_at, if_neg (by omega), pu_at, if_pos ⟨rfl, rfl⟩, lsB_s hq, cvI_s]
  · rw [pu_at, if_neg (by omega), pu_at, if_neg (by omega)]; exact f
  · rw [pu_at, if_pos ⟨rfl, rfl⟩, lsB_s hq, cwJ_s]
theorem tkQ.good {B : Nat → Nat} {n p : Nat} {I : pHI} {J : pHJ} (h : tkQ B n p (tE B n p) I J) (hp : p ≤ n) (hk : tK B n p = tS B n p) : tkC B n p I J := by
  obtain ⟨a, b, c, d, f, g⟩ := h
  refine ⟨by rw [hk]; exact a, b, c, fun e => ?_, f, fun _ => g⟩
  rw [d]
  exact cvI_n _ (fun x hx => sort_3.mp ((tL_s hp (Or.inr (tK_3 e).1) hx).trans (tK_3 e).1))
theorem tkQ.bad {B : Nat → Nat} {n p : Nat} {I : pHI} {J : pHJ} (h : tkQ B n p (tE B n p) I J) (hk : tK B n p = 1) : tkC B n p (pu I 4 2 (nI 1)) J := by
  obtain ⟨a, b, c, d, f, g⟩ := h
  refine ⟨by rw [pu_at, if_pos ⟨rfl, rfl⟩, hk], ?_, ?_, fun e => by omega, ?_, fun e => by omega⟩
  · rw [pu_at, if_neg (by omega)]; exact b
  · rw [pu_at, if_neg (by omega)]; exact c
  · rw [pu_at, if_neg (by omega)]; exact f
set_option maxHeartbeats 400000 in
set_option maxRecDepth 100000 in
theorem L_X10_stepE {l : Launch} {X : pX} {t g : Nat} {I : pHI} {J : pHJ} {Q : pQ} {n p : Nat} {B : Nat → Nat} {lg : Nat} {v2 : Option Value} {I1 : pHI} {J1 : pHJ} (hT : tpC I n B) (hp : p ≤ n) (hq : ∀ I1 J1, s4 I I1 → j4 J J1 → tkC B n p I1 J1 → Q none I1 J1 (pR t g)) (hx : s4 I I1) (jx : j4 J J1) (hv : tkQ B n p (tE B n p) I1 J1) (hl : (lg = 1 ∧ (tS B n p = 2 ∨ tS B n p = 3)) ∨ (lg = 0 ∧ ¬ (tS B n p = 2 ∨ tS B n p = 3))) : pE l X mX10_step 5 pK 201 [some (.ref 4), some (.int (nI lg)), v2] [] pK I1 J1 (pR t g) Q := by
  have hn := hT.2.1
  have hT1 := hT.s4 hx
  have hb := tE_b (B := B) hp
  have hb2 := tQ_b (B := B) hp
  have hs := tS_le (B := B) hp
  have hz := sort_le (cbB B n (tE B n p))
  refine pE_aload_n dX10_step_201 rfl rfl ?_
  refine pE_getI dX10_step_202 flX10_21 rfl (Or.inl rfl) (by first | assumption | rfl) ?_
  rw [hv.2.2.1]
  refine pE_aload_n dX10_step_205 rfl rfl ?_
  refine pE_getI dX10_step_206 flX10_18 rfl (Or.inl rfl) (by first | assumption | rfl) ?_
  rw [hv.2.1]
  refine pE_isubN dX10_step_209 (by omega) ?_
  refine pE_aload_n dX10_step_210 rfl rfl ?_
  refine pE_getI dX10_step_211 flX10_15 rfl (Or.inl rfl) (by first | assumption | rfl) ?_
  rw [hv.1]
  refine pE_iconst (v := nI 2) dX10_step_214 rfl ?_
  refine pE_icmp_ne (tgt := 223) dX10_step_215 (by decide) (fun h215 => ?_) (fun h215 => ?_)
  · have g215 := nq_ne (by omega) (by omega) h215
    refine pE_iconst (v := nI 4) dX10_step_223 rfl ?_
    refine pE_icmp_le (tgt := 231) dX10_step_224 (by decide) (fun h224 => ?_) (fun h224 => ?_)
    · have g224 := nq_le (by omega) (by omega) h224
      refine pE_iconst (v := nI 0) dX10_step_231 rfl ?_
      refine pE_istore_n (lc' := [_, _, some (.int _)]) dX10_step_232 rfl (Nat.le_of_ble_eq_true rfl) rfl rfl ?_
      refine pE_iload_n dX10_step_233 rfl rfl ?_
      refine pE_if_eq (tgt := 241) dX10_step_234 (by decide) (fun h234 => ?_) (fun h234 => ?_)
      · have g234 := nq_eq0 (by omega) h234
        refine pE_aload_n dX10_step_241 rfl rfl ?_
        refine pE_getI dX10_step_242 flX10_15 rfl (Or.inl rfl) (by first | assumption | rfl) ?_
        rw [hv.1]
        refine pE_iconst (v := nI 3) dX10_step_245 rfl ?_
        refine pE_icmp_ne (tgt := 269) dX10_step_246 (by decide) (fun h246 => ?_) (fun h246 => ?_)
        · have g246 := nq_ne (by omega) (by omega) h246
          refine pE_vret dX10_step_269 rfl rfl ?_
          first
          | exact hq _ _ (hx.pu (by omega)) jx (hv.bad (by
              unfold tK
              rw [if_pos]
              omega))
          | exact hq _ _ hx jx (hv.good hp (by
              unfold tK
              rw [if_neg]
              omega))
        · have g246 := nq_eq (by omega) (by omega) h246
          refine pE_aload_n dX10_step_249 rfl rfl ?_
          refine pE_aload_n dX10_step_250 rfl rfl ?_
          refine pE_getI dX10_step_251 flX10_21 rfl (Or.inl rfl) (by first | assumption | rfl) ?_
          rw [hv.2.2.1]
          refine pE_callV (d' := 0) (as := [_]) dX10_step_254 lkX10_50 (cwX10_byteAt _ _) ivX10_byteAt ⟨_, rfl, rfl⟩ (by first | assumption | rfl) rfl rfl (Nat.le_of_ble_eq_true rfl) (by decide) pKK ?_
          refine M_X10_byteAt (B := B) hT1 (by omega) ?_
          refine pE_callS (d' := 4) (as := [_]) dX10_step_257 lkX10_54 (cwX10_sortOf _ _) svX10_sortOf rfl rfl (Nat.le_of_ble_eq_true rfl) (by decide) pKK ?_
          refine M_X10_sortOf (cbB_le hT1 _) ?_
          refine pE_iconst (v := nI 2) dX10_step_260 rfl ?_
          refine pE_icmp_ne (tgt := 269) dX10_step_261 (by decide) (fun h261 => ?_) (fun h261 => ?_)
          · have g261 := nq_ne (by omega) (by omega) h261
            refine pE_vret dX10_step_269 rfl rfl ?_
            first
            | exact hq _ _ (hx.pu (by omega)) jx (hv.bad (by
                unfold tK
                rw [if_pos]
                omega))
            | exact hq _ _ hx jx (hv.good hp (by
                unfold tK
                rw [if_neg]
                omega))
          · have g261 := nq_eq (by omega) (by omega) h261
            refine pE_aload_n dX10_step_264 rfl rfl ?_
            refine pE_iconst (v := nI 1) dX10_step_265 rfl ?_
            refine pE_putI dX10_step_266 flX10_15 ftX10 fiX10_2 rfl rfl (by first | assumption | rfl) ?_
            refine pE_vret dX10_step_269 rfl rfl ?_
            first
            | exact hq _ _ (hx.pu (by omega)) jx (hv.bad (by
                unfold tK
                rw [if_pos]
                omega))
            | exact hq _ _ hx jx (hv.good hp (by
                unfold tK
                rw [if_neg]
                omega))
      · have g234 := nq_ne0 (by omega) h234
        refine pE_iload_n dX10_step_237 rfl rfl ?_
        refine pE_if_ne (tgt := 264) dX10_step_238 (by decide) (fun h238 => ?_) (fun h238 => ?_)
        · have g238 := nq_ne0 (by omega) h238
          refine pE_aload_n dX10_step_264 rfl rfl ?_
          refine pE_iconst (v := nI 1) dX10_step_265 rfl ?_
          refine pE_putI dX10_step_266 flX10_15 ftX10 fiX10_2 rfl rfl (by first | assumption | rfl) ?_
          refine pE_vret dX10_step_269 rfl rfl ?_
          first
          | exact hq _ _ (hx.pu (by omega)) jx (hv.bad (by
              unfold tK
              rw [if_pos]
              omega))
          | exact hq _ _ hx jx (hv.good hp (by
              unfold tK
              rw [if_neg]
              omega))
        · have g238 := nq_eq0 (by omega) h238
          refine pE_aload_n dX10_step_241 rfl rfl ?_
          refine pE_getI dX10_step_242 flX10_15 rfl (Or.inl rfl) (by first | assumption | rfl) ?_
          rw [hv.1]
          refine pE_iconst (v := nI 3) dX10_step_245 rfl ?_
          refine pE_icmp_ne (tgt := 269) dX10_step_246 (by decide) (fun h246 => ?_) (fun h246 => ?_)
          · have g246 := nq_ne (by omega) (by omega) h246
            refine pE_vret dX10_step_269 rfl rfl ?_
            first
            | exact hq _ _ (hx.pu (by omega)) jx (hv.bad (by
                unfold tK
                rw [if_pos]
                omega))
            | exact hq _ _ hx jx (hv.good hp (by
                unfold tK
                rw [if_neg]
                omega))
          · have g246 := nq_eq (by omega) (by omega) h246
            refine pE_aload_n dX10_step_249 rfl rfl ?_
            refine pE_aload_n dX10_step_250 rfl rfl ?_
            refine pE_getI dX10_step_251 flX10_21 rfl (Or.inl rfl) (by first | assumption | rfl) ?_
            rw [hv.2.2.1]
            refine pE_callV (d' := 0) (as := [_]) dX10_step_254 lkX10_50 (cwX10_byteAt _ _) ivX10_byteAt ⟨_, rfl, rfl⟩ (by first | assumption | rfl) rfl rfl (Nat.le_of_ble_eq_true rfl) (by decide) pKK ?_
            refine M_X10_byteAt (B := B) hT1 (by omega) ?_
            refine pE_callS (d' := 4) (as := [_]) dX10_step_257 lkX10_54 (cwX10_sortOf _ _) svX10_sortOf rfl rfl (Nat.le_of_ble_eq_true rfl) (by decide) pKK ?_
            refine M_X10_sortOf (cbB_le hT1 _) ?_
            refine pE_iconst (v := nI 2) dX10_step_260 rfl ?_
            refine pE_icmp_ne (tgt := 269) dX10_step_261 (by decide) (fun h261 => ?_) (fun h261 => ?_)
            · have g261 := nq_ne (by omega) (by omega) h261
              refine pE_vret dX10_step_269 rfl rfl ?_
              first
              | exact hq _ _ (hx.pu (by omega)) jx (hv.bad (by
                  unfold tK
                  rw [if_pos]
                  omega))
              | exact hq _ _ hx jx (hv.good hp (by
                  unfold tK
                  rw [if_neg]
                  omega))
            · have g261 := nq_eq (by omega) (by omega) h261
              refine pE_aload_n dX10_step_264 rfl rfl ?_
              refine pE_iconst (v := nI 1) dX10_step_265 rfl ?_
              refine pE_putI dX10_step_266 flX10_15 ftX10 fiX10_2 rfl rfl (by first | assumption | rfl) ?_
              refine pE_vret dX10_step_269 rfl rfl ?_
              first
              | exact hq _ _ (hx.pu (by omega)) jx (hv.bad (by
                  unfold tK
                  rw [if_pos]
                  omega))
              | exact hq _ _ hx jx (hv.good hp (by
                  unfold tK
                  rw [if_neg]
                  omega))
    · have g224 := nq_nle (by omega) (by omega) h224
      refine pE_iconst (v := nI 1) dX10_step_227 rfl ?_
      refine pE_goto (tgt := 232) dX10_step_228 (by decide) ?_
      refine pE_istore_n (lc' := [_, _, some (.int _)]) dX10_step_232 rfl (Nat.le_of_ble_eq_true rfl) rfl rfl ?_
      refine pE_iload_n dX10_step_233 rfl rfl ?_
      refine pE_if_eq (tgt := 241) dX10_step_234 (by decide) (fun h234 => ?_) (fun h234 => ?_)
      · have g234 := nq_eq0 (by omega) h234
        refine pE_aload_n dX10_step_241 rfl rfl ?_
        refine pE_getI dX10_step_242 flX10_15 rfl (Or.inl rfl) (by first | assumption | rfl) ?_
        rw [hv.1]
        refine pE_iconst (v := nI 3) dX10_step_245 rfl ?_
        refine pE_icmp_ne (tgt := 269) dX10_step_246 (by decide) (fun h246 => ?_) (fun h246 => ?_)
        · have g246 := nq_ne (by omega) (by omega) h246
          refine pE_vret dX10_step_269 rfl rfl ?_
          first
          | exact hq _ _ (hx.pu (by omega)) jx (hv.bad (by
              unfold tK
              rw [if_pos]
              omega))
          | exact hq _ _ hx jx (hv.good hp (by
              unfold tK
              rw [if_neg]
              omega))
        · have g246 := nq_eq (by omega) (by omega) h246
          refine pE_aload_n dX10_step_249 rfl rfl ?_
          refine pE_aload_n dX10_step_250 rfl rfl ?_
          refine pE_getI dX10_step_251 flX10_21 rfl (Or.inl rfl) (by first | assumption | rfl) ?_
          rw [hv.2.2.1]
          refine pE_callV (d' := 0) (as := [_]) dX10_step_254 lkX10_50 (cwX10_byteAt _ _) ivX10_byteAt ⟨_, rfl, rfl⟩ (by first | assumption | rfl) rfl rfl (Nat.le_of_ble_eq_true rfl) (by decide) pKK ?_
          refine M_X10_byteAt (B := B) hT1 (by omega) ?_
          refine pE_callS (d' := 4) (as := [_]) dX10_step_257 lkX10_54 (cwX10_sortOf _ _) svX10_sortOf rfl rfl (Nat.le_of_ble_eq_true rfl) (by decide) pKK ?_
          refine M_X10_sortOf (cbB_le hT1 _) ?_
          refine pE_iconst (v := nI 2) dX10_step_260 rfl ?_
          refine pE_icmp_ne (tgt := 269) dX10_step_261 (by decide) (fun h261 => ?_) (fun h261 => ?_)
          · have g261 := nq_ne (by omega) (by omega) h261
            refine pE_vret dX10_step_269 rfl rfl ?_
            first
            | exact hq _ _ (hx.pu (by omega)) jx (hv.bad (by
                unfold tK
                rw [if_pos]
                omega))
            | exact hq _ _ hx jx (hv.good hp (by
                unfold tK
                rw [if_neg]
                omega))
          · have g261 := nq_eq (by omega) (by omega) h261
            refine pE_aload_n dX10_step_264 rfl rfl ?_
            refine pE_iconst (v := nI 1) dX10_step_265 rfl ?_
            refine pE_putI dX10_step_266 flX10_15 ftX10 fiX10_2 rfl rfl (by first | assumption | rfl) ?_
            refine pE_vret dX10_step_269 rfl rfl ?_
            first
            | exact hq _ _ (hx.pu (by omega)) jx (hv.bad (by
                unfold tK
                rw [if_pos]
                omega))
            | exact hq _ _ hx jx (hv.good hp (by
                unfold tK
                rw [if_neg]
                omega))
      · have g234 := nq_ne0 (by omega) h234
        refine pE_iload_n dX10_step_237 rfl rfl ?_
        refine pE_if_ne (tgt := 264) dX10_step_238 (by decide) (fun h238 => ?_) (fun h238 => ?_)
        · have g238 := nq_ne0 (by omega) h238
          refine pE_aload_n dX10_step_264 rfl rfl ?_
          refine pE_iconst (v := nI 1) dX10_step_265 rfl ?_
          refine pE_putI dX10_step_266 flX10_15 ftX10 fiX10_2 rfl rfl (by first | assumption | rfl) ?_
          refine pE_vret dX10_step_269 rfl rfl ?_
          first
          | exact hq _ _ (hx.pu (by omega)) jx (hv.bad (by
              unfold tK
              rw [if_pos]
              omega))
          | exact hq _ _ hx jx (hv.good hp (by
              unfold tK
              rw [if_neg]
              omega))
        · have g238 := nq_eq0 (by omega) h238
          refine pE_aload_n dX10_step_241 rfl rfl ?_
          refine pE_getI dX10_step_242 flX10_15 rfl (Or.inl rfl) (by first | assumption | rfl) ?_
          rw [hv.1]
          refine pE_iconst (v := nI 3) dX10_step_245 rfl ?_
          refine pE_icmp_ne (tgt := 269) dX10_step_246 (by decide) (fun h246 => ?_) (fun h246 => ?_)
          · have g246 := nq_ne (by omega) (by omega) h246
            refine pE_vret dX10_step_269 rfl rfl ?_
            first
            | exact hq _ _ (hx.pu (by omega)) jx (hv.bad (by
                unfold tK
                rw [if_pos]
                omega))
            | exact hq _ _ hx jx (hv.good hp (by
                unfold tK
                rw [if_neg]
                omega))
          · have g246 := nq_eq (by omega) (by omega) h246
            refine pE_aload_n dX10_step_249 rfl rfl ?_
            refine pE_aload_n dX10_step_250 rfl rfl ?_
            refine pE_getI dX10_step_251 flX10_21 rfl (Or.inl rfl) (by first | assumption | rfl) ?_
            rw [hv.2.2.1]
            refine pE_callV (d' := 0) (as := [_]) dX10_step_254 lkX10_50 (cwX10_byteAt _ _) ivX10_byteAt ⟨_, rfl, rfl⟩ (by first | assumption | rfl) rfl rfl (Nat.le_of_ble_eq_true rfl) (by decide) pKK ?_
            refine M_X10_byteAt (B := B) hT1 (by omega) ?_
            refine pE_callS (d' := 4) (as := [_]) dX10_step_257 lkX10_54 (cwX10_sortOf _ _) svX10_sortOf rfl rfl (Nat.le_of_ble_eq_true rfl) (by decide) pKK ?_
            refine M_X10_sortOf (cbB_le hT1 _) ?_
            refine pE_iconst (v := nI 2) dX10_step_260 rfl ?_
            refine pE_icmp_ne (tgt := 269) dX10_step_261 (by decide) (fun h261 => ?_) (fun h261 => ?_)
            · have g261 := nq_ne (by omega) (by omega) h261
              refine pE_vret dX10_step_269 rfl rfl ?_
              first
              | exact hq _ _ (hx.pu (by omega)) jx (hv.bad (by
                  unfold tK
                  rw [if_pos]
                  omega))
              | exact hq _ _ hx jx (hv.good hp (by
                  unfold tK
                  rw [if_neg]
                  omega))
            · have g261 := nq_eq (by omega) (by omega) h261
              refine pE_aload_n dX10_step_264 rfl rfl ?_
              refine pE_iconst (v := nI 1) dX10_step_265 rfl ?_
              refine pE_putI dX10_step_266 flX10_15 ftX10 fiX10_2 rfl rfl (by first | assumption | rfl) ?_
              refine pE_vret dX10_step_269 rfl rfl ?_
              first
              | exact hq _ _ (hx.pu (by omega)) jx (hv.bad (by
                  unfold tK
                  rw [if_pos]
                  omega))
              | exact hq _ _ hx jx (hv.good hp (by
                  unfold tK
                  rw [if_neg]
                  omega))
  · have g215 := nq_eq (by omega) (by omega) h215
    refine pE_bipush (v := nI 8) dX10_step_218 rfl ?_
    refine pE_goto (tgt := 224) dX10_step_220 (by decide) ?_
    refine pE_icmp_le (tgt := 231) dX10_step_224 (by decide) (fun h224 => ?_) (fun h224 => ?_)
    · have g224 := nq_le (by omega) (by omega) h224
      refine pE_iconst (v := nI 0) dX10_step_231 rfl ?_
      refine pE_istore_n (lc' := [_, _, some (.int _)]) dX10_step_232 rfl (Nat.le_of_ble_eq_true rfl) rfl rfl ?_
      refine pE_iload_n dX10_step_233 rfl rfl ?_
      refine pE_if_eq (tgt := 241) dX10_step_234 (by decide) (fun h234 => ?_) (fun h234 => ?_)
      · have g234 := nq_eq0 (by omega) h234
        refine pE_aload_n dX10_step_241 rfl rfl ?_
        refine pE_getI dX10_step_242 flX10_15 rfl (Or.inl rfl) (by first | assumption | rfl) ?_
        rw [hv.1]
        refine pE_iconst (v := nI 3) dX10_step_245 rfl ?_
        refine pE_icmp_ne (tgt := 269) dX10_step_246 (by decide) (fun h246 => ?_) (fun h246 => ?_)
        · have g246 := nq_ne (by omega) (by omega) h246
          refine pE_vret dX10_step_269 rfl rfl ?_
          first
          | exact hq _ _ (hx.pu (by omega)) jx (hv.bad (by
              unfold tK
              rw [if_pos]
              omega))
          | exact hq _ _ hx jx (hv.good hp (by
              unfold tK
              rw [if_neg]
              omega))
        · have g246 := nq_eq (by omega) (by omega) h246
          refine pE_aload_n dX10_step_249 rfl rfl ?_
          refine pE_aload_n dX10_step_250 rfl rfl ?_
          refine pE_getI dX10_step_251 flX10_21 rfl (Or.inl rfl) (by first | assumption | rfl) ?_
          rw [hv.2.2.1]
          refine pE_callV (d' := 0) (as := [_]) dX10_step_254 lkX10_50 (cwX10_byteAt _ _) ivX10_byteAt ⟨_, rfl, rfl⟩ (by first | assumption | rfl) rfl rfl (Nat.le_of_ble_eq_true rfl) (by decide) pKK ?_
          refine M_X10_byteAt (B := B) hT1 (by omega) ?_
          refine pE_callS (d' := 4) (as := [_]) dX10_step_257 lkX10_54 (cwX10_sortOf _ _) svX10_sortOf rfl rfl (Nat.le_of_ble_eq_true rfl) (by decide) pKK ?_
          refine M_X10_sortOf (cbB_le hT1 _) ?_
          refine pE_iconst (v := nI 2) dX10_step_260 rfl ?_
          refine pE_icmp_ne (tgt := 269) dX10_step_261 (by decide) (fun h261 => ?_) (fun h261 => ?_)
          · have g261 := nq_ne (by omega) (by omega) h261
            refine pE_vret dX10_step_269 rfl rfl ?_
            first
            | exact hq _ _ (hx.pu (by omega)) jx (hv.bad (by
                unfold tK
                rw [if_pos]
                omega))
            | exact hq _ _ hx jx (hv.good hp (by
                unfold tK
                rw [if_neg]
                omega))
          · have g261 := nq_eq (by omega) (by omega) h261
            refine pE_aload_n dX10_step_264 rfl rfl ?_
            refine pE_iconst (v := nI 1) dX10_step_265 rfl ?_
            refine pE_putI dX10_step_266 flX10_15 ftX10 fiX10_2 rfl rfl (by first | assumption | rfl) ?_
            refine pE_vret dX10_step_269 rfl rfl ?_
            first
            | exact hq _ _ (hx.pu (by omega)) jx (hv.bad (by
                unfold tK
                rw [if_pos]
                omega))
            | exact hq _ _ hx jx (hv.good hp (by
                unfold tK
                rw [if_neg]
                omega))
      · have g234 := nq_ne0 (by omega) h234
        refine pE_iload_n dX10_step_237 rfl rfl ?_
        refine pE_if_ne (tgt := 264) dX10_step_238 (by decide) (fun h238 => ?_) (fun h238 => ?_)
        · have g238 := nq_ne0 (by omega) h238
          refine pE_aload_n dX10_step_264 rfl rfl ?_
          refine pE_iconst (v := nI 1) dX10_step_265 rfl ?_
          refine pE_putI dX10_step_266 flX10_15 ftX10 fiX10_2 rfl rfl (by first | assumption | rfl) ?_
          refine pE_vret dX10_step_269 rfl rfl ?_
          first
          | exact hq _ _ (hx.pu (by omega)) jx (hv.bad (by
              unfold tK
              rw [if_pos]
              omega))
          | exact hq _ _ hx jx (hv.good hp (by
              unfold tK
              rw [if_neg]
              omega))
        · have g238 := nq_eq0 (by omega) h238
          refine pE_aload_n dX10_step_241 rfl rfl ?_
          refine pE_getI dX10_step_242 flX10_15 rfl (Or.inl rfl) (by first | assumption | rfl) ?_
          rw [hv.1]
          refine pE_iconst (v := nI 3) dX10_step_245 rfl ?_
          refine pE_icmp_ne (tgt := 269) dX10_step_246 (by decide) (fun h246 => ?_) (fun h246 => ?_)
          · have g246 := nq_ne (by omega) (by omega) h246
            refine pE_vret dX10_step_269 rfl rfl ?_
            first
            | exact hq _ _ (hx.pu (by omega)) jx (hv.bad (by
                unfold tK
                rw [if_pos]
                omega))
            | exact hq _ _ hx jx (hv.good hp (by
                unfold tK
                rw [if_neg]
                omega))
          · have g246 := nq_eq (by omega) (by omega) h246
            refine pE_aload_n dX10_step_249 rfl rfl ?_
            refine pE_aload_n dX10_step_250 rfl rfl ?_
            refine pE_getI dX10_step_251 flX10_21 rfl (Or.inl rfl) (by first | assumption | rfl) ?_
            rw [hv.2.2.1]
            refine pE_callV (d' := 0) (as := [_]) dX10_step_254 lkX10_50 (cwX10_byteAt _ _) ivX10_byteAt ⟨_, rfl, rfl⟩ (by first | assumption | rfl) rfl rfl (Nat.le_of_ble_eq_true rfl) (by decide) pKK ?_
            refine M_X10_byteAt (B := B) hT1 (by omega) ?_
            refine pE_callS (d' := 4) (as := [_]) dX10_step_257 lkX10_54 (cwX10_sortOf _ _) svX10_sortOf rfl rfl (Nat.le_of_ble_eq_true rfl) (by decide) pKK ?_
            refine M_X10_sortOf (cbB_le hT1 _) ?_
            refine pE_iconst (v := nI 2) dX10_step_260 rfl ?_
            refine pE_icmp_ne (tgt := 269) dX10_step_261 (by decide) (fun h261 => ?_) (fun h261 => ?_)
            · have g261 := nq_ne (by omega) (by omega) h261
              refine pE_vret dX10_step_269 rfl rfl ?_
              first
              | exact hq _ _ (hx.pu (by omega)) jx (hv.bad (by
                  unfold tK
                  rw [if_pos]
                  omega))
              | exact hq _ _ hx jx (hv.good hp (by
                  unfold tK
                  rw [if_neg]
                  omega))
            · have g261 := nq_eq (by omega) (by omega) h261
              refine pE_aload_n dX10_step_264 rfl rfl ?_
              refine pE_iconst (v := nI 1) dX10_step_265 rfl ?_
              refine pE_putI dX10_step_266 flX10_15 ftX10 fiX10_2 rfl rfl (by first | assumption | rfl) ?_
              refine pE_vret dX10_step_269 rfl rfl ?_
              first
              | exact hq _ _ (hx.pu (by omega)) jx (hv.bad (by
                  unfold tK
                  rw [if_pos]
                  omega))
              | exact hq _ _ hx jx (hv.good hp (by
                  unfold tK
                  rw [if_neg]
                  omega))
    · have g224 := nq_nle (by omega) (by omega) h224
      refine pE_iconst (v := nI 1) dX10_step_227 rfl ?_
      refine pE_goto (tgt := 232) dX10_step_228 (by decide) ?_
      refine pE_istore_n (lc' := [_, _, some (.int _)]) dX10_step_232 rfl (Nat.le_of_ble_eq_true rfl) rfl rfl ?_
      refine pE_iload_n dX10_step_233 rfl rfl ?_
      refine pE_if_eq (tgt := 241) dX10_step_234 (by decide) (fun h234 => ?_) (fun h234 => ?_)
      · have g234 := nq_eq0 (by omega) h234
        refine pE_aload_n dX10_step_241 rfl rfl ?_
        refine pE_getI dX10_step_242 flX10_15 rfl (Or.inl rfl) (by first | assumption | rfl) ?_
        rw [hv.1]
        refine pE_iconst (v := nI 3) dX10_step_245 rfl ?_
        refine pE_icmp_ne (tgt := 269) dX10_step_246 (by decide) (fun h246 => ?_) (fun h246 => ?_)
        · have g246 := nq_ne (by omega) (by omega) h246
          refine pE_vret dX10_step_269 rfl rfl ?_
          first
          | exact hq _ _ (hx.pu (by omega)) jx (hv.bad (by
              unfold tK
              rw [if_pos]
              omega))
          | exact hq _ _ hx jx (hv.good hp (by
              unfold tK
              rw [if_neg]
              omega))
        · have g246 := nq_eq (by omega) (by omega) h246
          refine pE_aload_n dX10_step_249 rfl rfl ?_
          refine pE_aload_n dX10_step_250 rfl rfl ?_
          refine pE_getI dX10_step_251 flX10_21 rfl (Or.inl rfl) (by first | assumption | rfl) ?_
          rw [hv.2.2.1]
          refine pE_callV (d' := 0) (as := [_]) dX10_step_254 lkX10_50 (cwX10_byteAt _ _) ivX10_byteAt ⟨_, rfl, rfl⟩ (by first | assumption | rfl) rfl rfl (Nat.le_of_ble_eq_true rfl) (by decide) pKK ?_
          refine M_X10_byteAt (B := B) hT1 (by omega) ?_
          refine pE_callS (d' := 4) (as := [_]) dX10_step_257 lkX10_54 (cwX10_sortOf _ _) svX10_sortOf rfl rfl (Nat.le_of_ble_eq_true rfl) (by decide) pKK ?_
          refine M_X10_sortOf (cbB_le hT1 _) ?_
          refine pE_iconst (v := nI 2) dX10_step_260 rfl ?_
          refine pE_icmp_ne (tgt := 269) dX10_step_261 (by decide) (fun h261 => ?_) (fun h261 => ?_)
          · have g261 := nq_ne (by omega) (by omega) h261
            refine pE_vret dX10_step_269 rfl rfl ?_
            first
            | exact hq _ _ (hx.pu (by omega)) jx (hv.bad (by
                unfold tK
                rw [if_pos]
                omega))
            | exact hq _ _ hx jx (hv.good hp (by
                unfold tK
                rw [if_neg]
                omega))
          · have g261 := nq_eq (by omega) (by omega) h261
            refine pE_aload_n dX10_step_264 rfl rfl ?_
            refine pE_iconst (v := nI 1) dX10_step_265 rfl ?_
            refine pE_putI dX10_step_266 flX10_15 ftX10 fiX10_2 rfl rfl (by first | assumption | rfl) ?_
            refine pE_vret dX10_step_269 rfl rfl ?_
            first
            | exact hq _ _ (hx.pu (by omega)) jx (hv.bad (by
                unfold tK
                rw [if_pos]
                omega))
            | exact hq _ _ hx jx (hv.good hp (by
                unfold tK
                rw [if_neg]
                omega))
      · have g234 := nq_ne0 (by omega) h234
        refine pE_iload_n dX10_step_237 rfl rfl ?_
        refine pE_if_ne (tgt := 264) dX10_step_238 (by decide) (fun h238 => ?_) (fun h238 => ?_)
        · have g238 := nq_ne0 (by omega) h238
          refine pE_aload_n dX10_step_264 rfl rfl ?_
          refine pE_iconst (v := nI 1) dX10_step_265 rfl ?_
          refine pE_putI dX10_step_266 flX10_15 ftX10 fiX10_2 rfl rfl (by first | assumption | rfl) ?_
          refine pE_vret dX10_step_269 rfl rfl ?_
          first
          | exact hq _ _ (hx.pu (by omega)) jx (hv.bad (by
              unfold tK
              rw [if_pos]
              omega))
          | exact hq _ _ hx jx (hv.good hp (by
              unfold tK
              rw [if_neg]
              omega))
        · have g238 := nq_eq0 (by omega) h238
          refine pE_aload_n dX10_step_241 rfl rfl ?_
          refine pE_getI dX10_step_242 flX10_15 rfl (Or.inl rfl) (by first | assumption | rfl) ?_
          rw [hv.1]
          refine pE_iconst (v := nI 3) dX10_step_245 rfl ?_
          refine pE_icmp_ne (tgt := 269) dX10_step_246 (by decide) (fun h246 => ?_) (fun h246 => ?_)
          · have g246 := nq_ne (by omega) (by omega) h246
            refine pE_vret dX10_step_269 rfl rfl ?_
            first
            | exact hq _ _ (hx.pu (by omega)) jx (hv.bad (by
                unfold tK
                rw [if_pos]
                omega))
            | exact hq _ _ hx jx (hv.good hp (by
                unfold tK
                rw [if_neg]
                omega))
          · have g246 := nq_eq (by omega) (by omega) h246
            refine pE_aload_n dX10_step_249 rfl rfl ?_
            refine pE_aload_n dX10_step_250 rfl rfl ?_
            refine pE_getI dX10_step_251 flX10_21 rfl (Or.inl rfl) (by first | assumption | rfl) ?_
            rw [hv.2.2.1]
            refine pE_callV (d' := 0) (as := [_]) dX10_step_254 lkX10_50 (cwX10_byteAt _ _) ivX10_byteAt ⟨_, rfl, rfl⟩ (by first | assumption | rfl) rfl rfl (Nat.le_of_ble_eq_true rfl) (by decide) pKK ?_
            refine M_X10_byteAt (B := B) hT1 (by omega) ?_
            refine pE_callS (d' := 4) (as := [_]) dX10_step_257 lkX10_54 (cwX10_sortOf _ _) svX10_sortOf rfl rfl (Nat.le_of_ble_eq_true rfl) (by decide) pKK ?_
            refine M_X10_sortOf (cbB_le hT1 _) ?_
            refine pE_iconst (v := nI 2) dX10_step_260 rfl ?_
            refine pE_icmp_ne (tgt := 269) dX10_step_261 (by decide) (fun h261 => ?_) (fun h261 => ?_)
            · have g261 := nq_ne (by omega) (by omega) h261
              refine pE_vret dX10_step_269 rfl rfl ?_
              first
              | exact hq _ _ (hx.pu (by omega)) jx (hv.bad (by
                  unfold tK
                  rw [if_pos]
                  omega))
              | exact hq _ _ hx jx (hv.good hp (by
                  unfold tK
                  rw [if_neg]
                  omega))
            · have g261 := nq_eq (by omega) (by omega) h261
              refine pE_aload_n dX10_step_264 rfl rfl ?_
              refine pE_iconst (v := nI 1) dX10_step_265 rfl ?_
              refine pE_putI dX10_step_266 flX10_15 ftX10 fiX10_2 rfl rfl (by first | assumption | rfl) ?_
              refine pE_vret dX10_step_269 rfl rfl ?_
              first
              | exact hq _ _ (hx.pu (by omega)) jx (hv.bad (by
                  unfold tK
                  rw [if_pos]
                  omega))
              | exact hq _ _ hx jx (hv.good hp (by
                  unfold tK
                  rw [if_neg]
                  omega))
set_option maxHeartbeats 400000 in
set_option maxRecDepth 100000 in
theorem L_X10_stepL {l : Launch} {X : pX} {t g : Nat} {I : pHI} {J : pHJ} {Q : pQ} {n p : Nat} {B : Nat → Nat} (hT : tpC I n B) (hp : p ≤ n) (hq : ∀ I1 J1, s4 I I1 → j4 J J1 → tkC B n p I1 J1 → Q none I1 J1 (pR t g)) (hs : tS B n p = 2 ∨ tS B n p = 3) : ∀ (fu : Nat) (e : Nat) (v2 : Option Value) (I1 : pHI) (J1 : pHJ), n - e < fu → (tQ B n p ≤ e) → (e ≤ n) → (rE n (isSo B n (tS B n p)) e = tE B n p) → (s4 I I1) → (j4 J J1) → (tkQ B n p e I1 J1) → pE l X mX10_step 5 pK 102 [some (.ref 4), some (.int (nI 1)), v2] [] pK I1 J1 (pR t g) Q := by
  intro fu
  induction fu with
  | zero => intro e v2 I1 J1 hn; exact absurd hn (Nat.not_lt_zero _)
  | succ fu ih =>
    intro e v2 I1 J1 hn h1 h2 hE hx jx hv
    have hz := sort_le (cbB B n e)
    have hz2 : tS B n p ≤ 5 := sort_le _
    have hn := hT.2.1
    have hT1 := hT.s4 hx
    have hb := tE_b (B := B) hp
    have hb2 := tQ_b (B := B) hp
    refine pE_aload_n dX10_step_102 rfl rfl ?_
    refine pE_getI dX10_step_103 flX10_21 rfl (Or.inl rfl) (by first | assumption | rfl) ?_
    rw [hv.2.2.1]
    refine pE_aload_n dX10_step_106 rfl rfl ?_
    refine pE_getI dX10_step_107 flX10_9 rfl (Or.inl rfl) (by first | assumption | rfl) ?_
    rw [hT1.1]
    refine pE_icmp_ge (tgt := 201) dX10_step_110 (by decide) (fun h110 => ?_) (fun h110 => ?_)
    · have g110 := nq_le (by omega) (by omega) h110
      have ee : e = tE B n p := by
        refine Eq.trans ?_ hE
        first
        | exact (rE_e (by omega)).symm
        | exact (rE_n (isS_f g143)).symm
      subst ee
      exact L_X10_stepE hT hp hq hx jx hv (Or.inl ⟨rfl, hs⟩)
    · have g110 := nq_nle (by omega) (by omega) h110
      refine pE_aload_n dX10_step_113 rfl rfl ?_
      refine pE_getI dX10_step_114 flX10_21 rfl (Or.inl rfl) (by first | assumption | rfl) ?_
      rw [hv.2.2.1]
      refine pE_aload_n dX10_step_117 rfl rfl ?_
      refine pE_getI dX10_step_118 flX10_18 rfl (Or.inl rfl) (by first | assumption | rfl) ?_
      rw [hv.2.1]
      refine pE_icmp_eq (tgt := 146) dX10_step_121 (by decide) (fun h121 => ?_) (fun h121 => ?_)
      · have g121 := nq_eq (by omega) (by omega) h121
        have hce : cbB B n e < 256 := by rw [cbB_i (by omega)]; exact (hT1.2.2 e (by omega)).2
        refine pE_aload_n dX10_step_146 rfl rfl ?_
        refine pE_aload_n dX10_step_147 rfl rfl ?_
        refine pE_getI dX10_step_148 flX10_24 rfl (Or.inl rfl) (by first | assumption | rfl) ?_
        rw [hv.2.2.2.1]
        refine pE_bipush (v := nI 10) dX10_step_151 rfl ?_
        refine pE_imul dX10_step_153 ?_
        refine pE_aload_n dX10_step_154 rfl rfl ?_
        refine pE_aload_n dX10_step_155 rfl rfl ?_
        refine pE_getI dX10_step_156 flX10_21 rfl (Or.inl rfl) (by first | assumption | rfl) ?_
        rw [hv.2.2.1]
        refine pE_callV (d' := 0) (as := [_]) dX10_step_159 lkX10_50 (cwX10_byteAt _ _) ivX10_byteAt ⟨_, rfl, rfl⟩ (by first | assumption | rfl) rfl rfl (Nat.le_of_ble_eq_true rfl) (by decide) pKK ?_
        refine M_X10_byteAt (B := B) hT1 (by omega) ?_
        rw [bI_n hce]
        refine pE_iadd dX10_step_162 ?_
        refine pE_bipush (v := nI 48) dX10_step_163 rfl ?_
        refine pE_isub dX10_step_165 ?_
        refine pE_putI dX10_step_166 flX10_24 ftX10 fiX10_5 rfl rfl (by first | assumption | rfl) ?_
        refine pE_aload_n dX10_step_169 rfl rfl ?_
        refine pE_aload_n dX10_step_170 rfl rfl ?_
        refine pE_getJ dX10_step_171 flX10_30 rfl (by first | assumption | rfl) ?_
        rw [hv.2.2.2.2.2]
        refine pE_aload_n dX10_step_174 rfl rfl ?_
        refine pE_aload_n dX10_step_175 rfl rfl ?_
        refine pE_getI dX10_step_176 flX10_21 rfl (Or.inl rfl) (by first | assumption | rfl) ?_
        rw [(show pu I1 4 5 (cvI (lsB B n (tQ B n p) e) * nI 10 + nI (cbB B n e) - nI 48) 4 4 = nI e by rw [pu_at, if_neg (by omega)]; exact hv.2.2.1)]
        refine pE_callV (d' := 0) (as := [_]) dX10_step_179 lkX10_50 (cwX10_byteAt _ _) ivX10_byteAt ⟨_, rfl, rfl⟩ (by first | assumption | rfl) rfl rfl (Nat.le_of_ble_eq_true rfl) (by decide) pKK ?_
        refine M_X10_byteAt (B := B) (hT1.s4 (s4.rf.pu (by omega))) (by omega) ?_
        rw [bI_n hce]
        refine pE_callS (d' := 0) (as := [_, _]) dX10_step_182 lkX10_57 (cwX10_withLetter _ _) svX10_withLetter rfl rfl (Nat.le_of_ble_eq_true rfl) (by decide) pKK ?_
        refine M_X10_withLetter ?_
        refine pE_putJ dX10_step_185 flX10_30 ftX10 fiX10_7 rfl rfl (by first | assumption | rfl) ?_
        refine pE_aload_n dX10_step_188 rfl rfl ?_
        refine pE_dupR dX10_step_189 ?_
        refine pE_getI dX10_step_190 flX10_21 rfl (Or.inl rfl) (by first | assumption | rfl) ?_
        rw [(show pu I1 4 5 (cvI (lsB B n (tQ B n p) e) * nI 10 + nI (cbB B n e) - nI 48) 4 4 = nI e by rw [pu_at, if_neg (by omega)]; exact hv.2.2.1)]
        refine pE_iconst (v := nI 1) dX10_step_193 rfl ?_
        refine pE_iaddN dX10_step_194 ?_
        refine pE_putI dX10_step_195 flX10_21 ftX10 fiX10_4 rfl rfl (by first | assumption | rfl) ?_
        refine pE_goto (tgt := 102) dX10_step_198 (by decide) ?_
        refine ih (e + 1) _ _ _ (by omega) (by omega) (by omega) ?_ ((hx.pu (by omega)).pu (by omega)) jx.pu (hv.next h1)
        refine (rE_y (by omega) (isS_t ?_)).symm.trans hE
        first
        | exact g143
        | (rw [g121]; rfl)
      · have g121 := nq_ne (by omega) (by omega) h121
        refine pE_iload_n dX10_step_124 rfl rfl ?_
        refine pE_if_eq (tgt := 201) dX10_step_125 (by decide) (fun h125 => ?_) (fun h125 => ?_)
        · have g125 := nq_eq0 (by omega) h125
          omega
        · have g125 := nq_ne0 (by omega) h125
          refine pE_aload_n dX10_step_128 rfl rfl ?_
          refine pE_aload_n dX10_step_129 rfl rfl ?_
          refine pE_getI dX10_step_130 flX10_21 rfl (Or.inl rfl) (by first | assumption | rfl) ?_
          rw [hv.2.2.1]
          refine pE_callV (d' := 0) (as := [_]) dX10_step_133 lkX10_50 (cwX10_byteAt _ _) ivX10_byteAt ⟨_, rfl, rfl⟩ (by first | assumption | rfl) rfl rfl (Nat.le_of_ble_eq_true rfl) (by decide) pKK ?_
          refine M_X10_byteAt (B := B) hT1 (by omega) ?_
          refine pE_callS (d' := 4) (as := [_]) dX10_step_136 lkX10_54 (cwX10_sortOf _ _) svX10_sortOf rfl rfl (Nat.le_of_ble_eq_true rfl) (by decide) pKK ?_
          refine M_X10_sortOf (cbB_le hT1 _) ?_
          refine pE_aload_n dX10_step_139 rfl rfl ?_
          refine pE_getI dX10_step_140 flX10_15 rfl (Or.inl rfl) (by first | assumption | rfl) ?_
          rw [hv.1]
          refine pE_icmp_ne (tgt := 201) dX10_step_143 (by decide) (fun h143 => ?_) (fun h143 => ?_)
          · have g143 := nq_ne (by omega) (by omega) h143
            have ee : e = tE B n p := by
              refine Eq.trans ?_ hE
              first
              | exact (rE_e (by omega)).symm
              | exact (rE_n (isS_f g143)).symm
            subst ee
            exact L_X10_stepE hT hp hq hx jx hv (Or.inl ⟨rfl, hs⟩)
          · have g143 := nq_eq (by omega) (by omega) h143
            have hce : cbB B n e < 256 := by rw [cbB_i (by omega)]; exact (hT1.2.2 e (by omega)).2
            refine pE_aload_n dX10_step_146 rfl rfl ?_
            refine pE_aload_n dX10_step_147 rfl rfl ?_
            refine pE_getI dX10_step_148 flX10_24 rfl (Or.inl rfl) (by first | assumption | rfl) ?_
            rw [hv.2.2.2.1]
            refine pE_bipush (v := nI 10) dX10_step_151 rfl ?_
            refine pE_imul dX10_step_153 ?_
            refine pE_aload_n dX10_step_154 rfl rfl ?_
            refine pE_aload_n dX10_step_155 rfl rfl ?_
            refine pE_getI dX10_step_156 flX10_21 rfl (Or.inl rfl) (by first | assumption | rfl) ?_
            rw [hv.2.2.1]
            refine pE_callV (d' := 0) (as := [_]) dX10_step_159 lkX10_50 (cwX10_byteAt _ _) ivX10_byteAt ⟨_, rfl, rfl⟩ (by first | assumption | rfl) rfl rfl (Nat.le_of_ble_eq_true rfl) (by decide) pKK ?_
            refine M_X10_byteAt (B := B) hT1 (by omega) ?_
            rw [bI_n hce]
            refine pE_iadd dX10_step_162 ?_
            refine pE_bipush (v := nI 48) dX10_step_163 rfl ?_
            refine pE_isub dX10_step_165 ?_
            refine pE_putI dX10_step_166 flX10_24 ftX10 fiX10_5 rfl rfl (by first | assumption | rfl) ?_
            refine pE_aload_n dX10_step_169 rfl rfl ?_
            refine pE_aload_n dX10_step_170 rfl rfl ?_
            refine pE_getJ dX10_step_171 flX10_30 rfl (by first | assumption | rfl) ?_
            rw [hv.2.2.2.2.2]
            refine pE_aload_n dX10_step_174 rfl rfl ?_
            refine pE_aload_n dX10_step_175 rfl rfl ?_
            refine pE_getI dX10_step_176 flX10_21 rfl (Or.inl rfl) (by first | assumption | rfl) ?_
            rw [(show pu I1 4 5 (cvI (lsB B n (tQ B n p) e) * nI 10 + nI (cbB B n e) - nI 48) 4 4 = nI e by rw [pu_at, if_neg (by omega)]; exact hv.2.2.1)]
            refine pE_callV (d' := 0) (as := [_]) dX10_step_179 lkX10_50 (cwX10_byteAt _ _) ivX10_byteAt ⟨_, rfl, rfl⟩ (by first | assumption | rfl) rfl rfl (Nat.le_of_ble_eq_true rfl) (by decide) pKK ?_
            refine M_X10_byteAt (B := B) (hT1.s4 (s4.rf.pu (by omega))) (by omega) ?_
            rw [bI_n hce]
            refine pE_callS (d' := 0) (as := [_, _]) dX10_step_182 lkX10_57 (cwX10_withLetter _ _) svX10_withLetter rfl rfl (Nat.le_of_ble_eq_true rfl) (by decide) pKK ?_
            refine M_X10_withLetter ?_
            refine pE_putJ dX10_step_185 flX10_30 ftX10 fiX10_7 rfl rfl (by first | assumption | rfl) ?_
            refine pE_aload_n dX10_step_188 rfl rfl ?_
            refine pE_dupR dX10_step_189 ?_
            refine pE_getI dX10_step_190 flX10_21 rfl (Or.inl rfl) (by first | assumption | rfl) ?_
            rw [(show pu I1 4 5 (cvI (lsB B n (tQ B n p) e) * nI 10 + nI (cbB B n e) - nI 48) 4 4 = nI e by rw [pu_at, if_neg (by omega)]; exact hv.2.2.1)]
            refine pE_iconst (v := nI 1) dX10_step_193 rfl ?_
            refine pE_iaddN dX10_step_194 ?_
            refine pE_putI dX10_step_195 flX10_21 ftX10 fiX10_4 rfl rfl (by first | assumption | rfl) ?_
            refine pE_goto (tgt := 102) dX10_step_198 (by decide) ?_
            refine ih (e + 1) _ _ _ (by omega) (by omega) (by omega) ?_ ((hx.pu (by omega)).pu (by omega)) jx.pu (hv.next h1)
            refine (rE_y (by omega) (isS_t ?_)).symm.trans hE
            first
            | exact g143
            | (rw [g121]; rfl)
set_option maxHeartbeats 400000 in
set_option maxRecDepth 100000 in
theorem L_X10_stepS {l : Launch} {X : pX} {t g : Nat} {I : pHI} {J : pHJ} {Q : pQ} {n p : Nat} {B : Nat → Nat} (hT : tpC I n B) (hp : p ≤ n) (hq : ∀ I1 J1, s4 I I1 → j4 J J1 → tkC B n p I1 J1 → Q none I1 J1 (pR t g)) (hs : ¬ (tS B n p = 2 ∨ tS B n p = 3)) : ∀ (fu : Nat) (e : Nat) (v2 : Option Value) (I1 : pHI) (J1 : pHJ), n - e < fu → (tQ B n p ≤ e) → (e ≤ n) → (e = tQ B n p ∨ e = tE B n p) → (s4 I I1) → (j4 J J1) → (tkQ B n p e I1 J1) → pE l X mX10_step 5 pK 102 [some (.ref 4), some (.int (nI 0)), v2] [] pK I1 J1 (pR t g) Q := by
  intro fu
  induction fu with
  | zero => intro e v2 I1 J1 hn; exact absurd hn (Nat.not_lt_zero _)
  | succ fu ih =>
    intro e v2 I1 J1 hn h1 h2 hE hx jx hv
    have hz := sort_le (cbB B n e)
    have hz2 : tS B n p ≤ 5 := sort_le _
    have hn := hT.2.1
    have hT1 := hT.s4 hx
    have hb := tE_b (B := B) hp
    have hb2 := tQ_b (B := B) hp
    refine pE_aload_n dX10_step_102 rfl rfl ?_
    refine pE_getI dX10_step_103 flX10_21 rfl (Or.inl rfl) (by first | assumption | rfl) ?_
    rw [hv.2.2.1]
    refine pE_aload_n dX10_step_106 rfl rfl ?_
    refine pE_getI dX10_step_107 flX10_9 rfl (Or.inl rfl) (by first | assumption | rfl) ?_
    rw [hT1.1]
    refine pE_icmp_ge (tgt := 201) dX10_step_110 (by decide) (fun h110 => ?_) (fun h110 => ?_)
    · have g110 := nq_le (by omega) (by omega) h110
      have ee : e = tE B n p := by
        rcases hE with z | z
        · have z2 : n ≤ e := by omega
          rw [z] at z2
          have h0 : tS B n p = 0 := sort_e z2
          unfold tE
          rw [if_neg hs, if_pos h0]
          exact z
        · exact z
      subst ee
      exact L_X10_stepE hT hp hq hx jx hv (Or.inr ⟨rfl, hs⟩)
    · have g110 := nq_nle (by omega) (by omega) h110
      refine pE_aload_n dX10_step_113 rfl rfl ?_
      refine pE_getI dX10_step_114 flX10_21 rfl (Or.inl rfl) (by first | assumption | rfl) ?_
      rw [hv.2.2.1]
      refine pE_aload_n dX10_step_117 rfl rfl ?_
      refine pE_getI dX10_step_118 flX10_18 rfl (Or.inl rfl) (by first | assumption | rfl) ?_
      rw [hv.2.1]
      refine pE_icmp_eq (tgt := 146) dX10_step_121 (by decide) (fun h121 => ?_) (fun h121 => ?_)
      · have g121 := nq_eq (by omega) (by omega) h121
        have hce : cbB B n e < 256 := by rw [cbB_i (by omega)]; exact (hT1.2.2 e (by omega)).2
        refine pE_aload_n dX10_step_146 rfl rfl ?_
        refine pE_aload_n dX10_step_147 rfl rfl ?_
        refine pE_getI dX10_step_148 flX10_24 rfl (Or.inl rfl) (by first | assumption | rfl) ?_
        rw [hv.2.2.2.1]
        refine pE_bipush (v := nI 10) dX10_step_151 rfl ?_
        refine pE_imul dX10_step_153 ?_
        refine pE_aload_n dX10_step_154 rfl rfl ?_
        refine pE_aload_n dX10_step_155 rfl rfl ?_
        refine pE_getI dX10_step_156 flX10_21 rfl (Or.inl rfl) (by first | assumption | rfl) ?_
        rw [hv.2.2.1]
        refine pE_callV (d' := 0) (as := [_]) dX10_step_159 lkX10_50 (cwX10_byteAt _ _) ivX10_byteAt ⟨_, rfl, rfl⟩ (by first | assumption | rfl) rfl rfl (Nat.le_of_ble_eq_true rfl) (by decide) pKK ?_
        refine M_X10_byteAt (B := B) hT1 (by omega) ?_
        rw [bI_n hce]
        refine pE_iadd dX10_step_162 ?_
        refine pE_bipush (v := nI 48) dX10_step_163 rfl ?_
        refine pE_isub dX10_step_165 ?_
        refine pE_putI dX10_step_166 flX10_24 ftX10 fiX10_5 rfl rfl (by first | assumption | rfl) ?_
        refine pE_aload_n dX10_step_169 rfl rfl ?_
        refine pE_aload_n dX10_step_170 rfl rfl ?_
        refine pE_getJ dX10_step_171 flX10_30 rfl (by first | assumption | rfl) ?_
        rw [hv.2.2.2.2.2]
        refine pE_aload_n dX10_step_174 rfl rfl ?_
        refine pE_aload_n dX10_step_175 rfl rfl ?_
        refine pE_getI dX10_step_176 flX10_21 rfl (Or.inl rfl) (by first | assumption | rfl) ?_
        rw [(show pu I1 4 5 (cvI (lsB B n (tQ B n p) e) * nI 10 + nI (cbB B n e) - nI 48) 4 4 = nI e by rw [pu_at, if_neg (by omega)]; exact hv.2.2.1)]
        refine pE_callV (d' := 0) (as := [_]) dX10_step_179 lkX10_50 (cwX10_byteAt _ _) ivX10_byteAt ⟨_, rfl, rfl⟩ (by first | assumption | rfl) rfl rfl (Nat.le_of_ble_eq_true rfl) (by decide) pKK ?_
        refine M_X10_byteAt (B := B) (hT1.s4 (s4.rf.pu (by omega))) (by omega) ?_
        rw [bI_n hce]
        refine pE_callS (d' := 0) (as := [_, _]) dX10_step_182 lkX10_57 (cwX10_withLetter _ _) svX10_withLetter rfl rfl (Nat.le_of_ble_eq_true rfl) (by decide) pKK ?_
        refine M_X10_withLetter ?_
        refine pE_putJ dX10_step_185 flX10_30 ftX10 fiX10_7 rfl rfl (by first | assumption | rfl) ?_
        refine pE_aload_n dX10_step_188 rfl rfl ?_
        refine pE_dupR dX10_step_189 ?_
        refine pE_getI dX10_step_190 flX10_21 rfl (Or.inl rfl) (by first | assumption | rfl) ?_
        rw [(show pu I1 4 5 (cvI (lsB B n (tQ B n p) e) * nI 10 + nI (cbB B n e) - nI 48) 4 4 = nI e by rw [pu_at, if_neg (by omega)]; exact hv.2.2.1)]
        refine pE_iconst (v := nI 1) dX10_step_193 rfl ?_
        refine pE_iaddN dX10_step_194 ?_
        refine pE_putI dX10_step_195 flX10_21 ftX10 fiX10_4 rfl rfl (by first | assumption | rfl) ?_
        refine pE_goto (tgt := 102) dX10_step_198 (by decide) ?_
        have h0 : tS B n p ≠ 0 := fun z => by
          have := sort_0 z
          rw [← g121] at this
          omega
        have e1 : tE B n p = tQ B n p + 1 := by
          unfold tE
          rw [if_neg hs, if_neg h0]
        exact ih (e + 1) _ _ _ (by omega) (by omega) (by omega) (Or.inr (by omega)) ((hx.pu (by omega)).pu (by omega)) jx.pu (hv.next h1)
      · have g121 := nq_ne (by omega) (by omega) h121
        refine pE_iload_n dX10_step_124 rfl rfl ?_
        refine pE_if_eq (tgt := 201) dX10_step_125 (by decide) (fun h125 => ?_) (fun h125 => ?_)
        · have g125 := nq_eq0 (by omega) h125
          have ee : e = tE B n p := by
            rcases hE with z | z
            · have z2 : n ≤ e := by omega
              rw [z] at z2
              have h0 : tS B n p = 0 := sort_e z2
              unfold tE
              rw [if_neg hs, if_pos h0]
              exact z
            · exact z
          subst ee
          exact L_X10_stepE hT hp hq hx jx hv (Or.inr ⟨rfl, hs⟩)
        · have g125 := nq_ne0 (by omega) h125
          omega
set_option maxHeartbeats 400000 in
set_option maxRecDepth 100000 in
theorem L_X10_stepB {l : Launch} {X : pX} {t g : Nat} {I : pHI} {J : pHJ} {Q : pQ} {n p : Nat} {B : Nat → Nat} {I1 : pHI} (hT : tpC I n B) (hp : p ≤ n) (hq : ∀ I1 J1, s4 I I1 → j4 J J1 → tkC B n p I1 J1 → Q none I1 J1 (pR t g)) (hx : s4 I I1) (h4 : I1 4 4 = nI (tQ B n p)) : pE l X mX10_step 5 pK 39 [some (.ref 4), none, none] [] pK I1 J (pR t g) Q := by
  have hn := hT.2.1
  have hz : tS B n p ≤ 5 := sort_le _
  have hb2 := tQ_b (B := B) hp
  have hT1 := hT.s4 hx
  have hT2 := hT1.s4 (s4.rf.pu (k := 3) (x := nI (tQ B n p)) (by omega))
  refine pE_aload_n dX10_step_39 rfl rfl ?_
  refine pE_aload_n dX10_step_40 rfl rfl ?_
  refine pE_getI dX10_step_41 flX10_21 rfl (Or.inl rfl) (by first | assumption | rfl) ?_
  rw [h4]
  refine pE_putI dX10_step_44 flX10_18 ftX10 fiX10_3 rfl rfl (by first | assumption | rfl) ?_
  refine pE_aload_n dX10_step_47 rfl rfl ?_
  refine pE_aload_n dX10_step_48 rfl rfl ?_
  refine pE_aload_n dX10_step_49 rfl rfl ?_
  refine pE_getI dX10_step_50 flX10_18 rfl (Or.inl rfl) (by first | assumption | rfl) ?_
  rw [(show pu I1 4 3 (nI (tQ B n p)) 4 3 = nI (tQ B n p) by rw [pu_at, if_pos ⟨rfl, rfl⟩])]
  refine pE_callV (d' := 0) (as := [_]) dX10_step_53 lkX10_50 (cwX10_byteAt _ _) ivX10_byteAt ⟨_, rfl, rfl⟩ (by first | assumption | rfl) rfl rfl (Nat.le_of_ble_eq_true rfl) (by decide) pKK ?_
  refine M_X10_byteAt (B := B) hT2 (by omega) ?_
  refine pE_putI dX10_step_56 flX10_27 ftX10 fiX10_6 rfl rfl (by first | assumption | rfl) ?_
  refine pE_aload_n dX10_step_59 rfl rfl ?_
  refine pE_aload_n dX10_step_60 rfl rfl ?_
  refine pE_getI dX10_step_61 flX10_27 rfl (Or.inl rfl) (by first | assumption | rfl) ?_
  rw [show (pu (pu I1 4 3 (nI (tQ B n p))) 4 6 (bI (cbB B n (tQ B n p)))) 4 6 = bI (cbB B n (tQ B n p)) from by simp only [pu_at]; rfl]
  refine pE_callS (d' := 4) (as := [_]) dX10_step_64 lkX10_54 (cwX10_sortOf _ _) svX10_sortOf rfl rfl (Nat.le_of_ble_eq_true rfl) (by decide) pKK ?_
  refine M_X10_sortOf (cbB_le hT2 _) ?_
  rw [show sortC (cbB B n (tQ B n p)) = tS B n p from rfl]
  refine pE_putI dX10_step_67 flX10_15 ftX10 fiX10_2 rfl rfl (by first | assumption | rfl) ?_
  refine pE_aload_n dX10_step_70 rfl rfl ?_
  refine pE_iconst (v := nI 0) dX10_step_71 rfl ?_
  refine pE_putI dX10_step_72 flX10_24 ftX10 fiX10_5 rfl rfl (by first | assumption | rfl) ?_
  refine pE_aload_n dX10_step_75 rfl rfl ?_
  refine pE_lconst (v := 0) dX10_step_76 rfl ?_
  refine pE_putJ dX10_step_77 flX10_30 ftX10 fiX10_7 rfl rfl (by first | assumption | rfl) ?_
  refine pE_aload_n dX10_step_80 rfl rfl ?_
  refine pE_getI dX10_step_81 flX10_15 rfl (Or.inl rfl) (by first | assumption | rfl) ?_
  rw [(show pu (pu (pu (pu I1 4 3 (nI (tQ B n p))) 4 6 (bI (cbB B n (tQ B n p)))) 4 2 (nI (tS B n p))) 4 5 (nI 0) 4 2 = nI (tS B n p) by simp only [pu_at]; rfl)]
  refine pE_iconst (v := nI 2) dX10_step_84 rfl ?_
  refine pE_icmp_eq (tgt := 96) dX10_step_85 (by decide) (fun h85 => ?_) (fun h85 => ?_)
  · have g85 := nq_eq (by omega) (by omega) h85
    refine pE_iconst (v := nI 1) dX10_step_96 rfl ?_
    refine pE_goto (tgt := 101) dX10_step_97 (by decide) ?_
    refine pE_istore_n (lc' := [_, some (.int _), _]) dX10_step_101 rfl (Nat.le_of_ble_eq_true rfl) rfl rfl ?_
    first
    | (have hs : tS B n p = 2 ∨ tS B n p = 3 := by omega
       refine L_X10_stepL hT hp hq hs (n - tQ B n p + 1) (tQ B n p) _ _ _ (by omega) (Nat.le_refl _) hb2.2.1 (by unfold tE; rw [if_pos hs]) ((((hx.pu (by omega)).pu (by omega)).pu (by omega)).pu (by omega)) j4.rf.pu ⟨?_, ?_, ?_, ?_, ?_, ?_⟩
       · simp only [pu_at]; rfl
       · simp only [pu_at]; rfl
       · simp only [pu_at]; exact h4
       · rw [lsB_0]; simp only [pu_at]; rfl
       · simp only [pu_at]; rfl
       · rw [lsB_0]; simp only [pu_at]; rfl)
    | (have hs : ¬ (tS B n p = 2 ∨ tS B n p = 3) := by omega
       refine L_X10_stepS hT hp hq hs (n - tQ B n p + 1) (tQ B n p) _ _ _ (by omega) (Nat.le_refl _) hb2.2.1 (Or.inl rfl) ((((hx.pu (by omega)).pu (by omega)).pu (by omega)).pu (by omega)) j4.rf.pu ⟨?_, ?_, ?_, ?_, ?_, ?_⟩
       · simp only [pu_at]; rfl
       · simp only [pu_at]; rfl
       · simp only [pu_at]; exact h4
       · rw [lsB_0]; simp only [pu_at]; rfl
       · simp only [pu_at]; rfl
       · rw [lsB_0]; simp only [pu_at]; rfl)
  · have g85 := nq_ne (by omega) (by omega) h85
    refine pE_aload_n dX10_step_88 rfl rfl ?_
    refine pE_getI dX10_step_89 flX10_15 rfl (Or.inl rfl) (by first | assumption | rfl) ?_
    rw [(show pu (pu (pu (pu I1 4 3 (nI (tQ B n p))) 4 6 (bI (cbB B n (tQ B n p)))) 4 2 (nI (tS B n p))) 4 5 (nI 0) 4 2 = nI (tS B n p) by simp only [pu_at]; rfl)]
    refine pE_iconst (v := nI 3) dX10_step_92 rfl ?_
    refine pE_icmp_ne (tgt := 100) dX10_step_93 (by decide) (fun h93 => ?_) (fun h93 => ?_)
    · have g93 := nq_ne (by omega) (by omega) h93
      refine pE_iconst (v := nI 0) dX10_step_100 rfl ?_
      refine pE_istore_n (lc' := [_, some (.int _), _]) dX10_step_101 rfl (Nat.le_of_ble_eq_true rfl) rfl rfl ?_
      first
      | (have hs : tS B n p = 2 ∨ tS B n p = 3 := by omega
         refine L_X10_stepL hT hp hq hs (n - tQ B n p + 1) (tQ B n p) _ _ _ (by omega) (Nat.le_refl _) hb2.2.1 (by unfold tE; rw [if_pos hs]) ((((hx.pu (by omega)).pu (by omega)).pu (by omega)).pu (by omega)) j4.rf.pu ⟨?_, ?_, ?_, ?_, ?_, ?_⟩
         · simp only [pu_at]; rfl
         · simp only [pu_at]; rfl
         · simp only [pu_at]; exact h4
         · rw [lsB_0]; simp only [pu_at]; rfl
         · simp only [pu_at]; rfl
         · rw [lsB_0]; simp only [pu_at]; rfl)
      | (have hs : ¬ (tS B n p = 2 ∨ tS B n p = 3) := by omega
         refine L_X10_stepS hT hp hq hs (n - tQ B n p + 1) (tQ B n p) _ _ _ (by omega) (Nat.le_refl _) hb2.2.1 (Or.inl rfl) ((((hx.pu (by omega)).pu (by omega)).pu (by omega)).pu (by omega)) j4.rf.pu ⟨?_, ?_, ?_, ?_, ?_, ?_⟩
         · simp only [pu_at]; rfl
         · simp only [pu_at]; rfl
         · simp only [pu_at]; exact h4
         · rw [lsB_0]; simp only [pu_at]; rfl
         · simp only [pu_at]; rfl
         · rw [lsB_0]; simp only [pu_at]; rfl)
    · have g93 := nq_eq (by omega) (by omega) h93
      refine pE_iconst (v := nI 1) dX10_step_96 rfl ?_
      refine pE_goto (tgt := 101) dX10_step_97 (by decide) ?_
      refine pE_istore_n (lc' := [_, some (.int _), _]) dX10_step_101 rfl (Nat.le_of_ble_eq_true rfl) rfl rfl ?_
      first
      | (have hs : tS B n p = 2 ∨ tS B n p = 3 := by omega
         refine L_X10_stepL hT hp hq hs (n - tQ B n p + 1) (tQ B n p) _ _ _ (by omega) (Nat.le_refl _) hb2.2.1 (by unfold tE; rw [if_pos hs]) ((((hx.pu (by omega)).pu (by omega)).pu (by omega)).pu (by omega)) j4.rf.pu ⟨?_, ?_, ?_, ?_, ?_, ?_⟩
         · simp only [pu_at]; rfl
         · simp only [pu_at]; rfl
         · simp only [pu_at]; exact h4
         · rw [lsB_0]; simp only [pu_at]; rfl
         · simp only [pu_at]; rfl
         · rw [lsB_0]; simp only [pu_at]; rfl)
      | (have hs : ¬ (tS B n p = 2 ∨ tS B n p = 3) := by omega
         refine L_X10_stepS hT hp hq hs (n - tQ B n p + 1) (tQ B n p) _ _ _ (by omega) (Nat.le_refl _) hb2.2.1 (Or.inl rfl) ((((hx.pu (by omega)).pu (by omega)).pu (by omega)).pu (by omega)) j4.rf.pu ⟨?_, ?_, ?_, ?_, ?_, ?_⟩
         · simp only [pu_at]; rfl
         · simp only [pu_at]; rfl
         · simp only [pu_at]; exact h4
         · rw [lsB_0]; simp only [pu_at]; rfl
         · simp only [pu_at]; rfl
         · rw [lsB_0]; simp only [pu_at]; rfl)
set_option maxHeartbeats 400000 in
set_option maxRecDepth 100000 in
theorem L_X10_stepA {l : Launch} {X : pX} {t g : Nat} {I : pHI} {J : pHJ} {Q : pQ} {n p : Nat} {B : Nat → Nat} (hT : tpC I n B) (hp : p ≤ n) (hq : ∀ I1 J1, s4 I I1 → j4 J J1 → tkC B n p I1 J1 → Q none I1 J1 (pR t g)) : ∀ (fu : Nat) (r : Nat) (I1 : pHI), n - r < fu → (r ≤ n) → (I1 4 4 = nI r) → (s4 I I1) → (tQ B n r = tQ B n p) → pE l X mX10_step 5 pK 0 [some (.ref 4), none, none] [] pK I1 J (pR t g) Q := by
  intro fu
  induction fu with
  | zero => intro r I1 hn; exact absurd hn (Nat.not_lt_zero _)
  | succ fu ih =>
    intro r I1 hn h1 h4 hx hQ
    have hn := hT.2.1
    have hz := sort_le (cbB B n r)
    have hT1 := hT.s4 hx
    refine pE_aload_n dX10_step_0 rfl rfl ?_
    refine pE_getI dX10_step_1 flX10_21 rfl (Or.inl rfl) (by first | assumption | rfl) ?_
    rw [h4]
    refine pE_aload_n dX10_step_4 rfl rfl ?_
    refine pE_getI dX10_step_5 flX10_9 rfl (Or.inl rfl) (by first | assumption | rfl) ?_
    rw [hT1.1]
    refine pE_icmp_ge (tgt := 39) dX10_step_8 (by decide) (fun h8 => ?_) (fun h8 => ?_)
    · have g8 := nq_le (by omega) (by omega) h8
      have e1 : tQ B n r = r := by
        first
        | exact rE_e (by omega)
        | exact rE_n (isS_f g23)
      exact L_X10_stepB hT hp hq hx (by rw [h4, ← hQ, e1])
    · have g8 := nq_nle (by omega) (by omega) h8
      refine pE_aload_n dX10_step_11 rfl rfl ?_
      refine pE_aload_n dX10_step_12 rfl rfl ?_
      refine pE_getI dX10_step_13 flX10_21 rfl (Or.inl rfl) (by first | assumption | rfl) ?_
      rw [h4]
      refine pE_callV (d' := 0) (as := [_]) dX10_step_16 lkX10_50 (cwX10_byteAt _ _) ivX10_byteAt ⟨_, rfl, rfl⟩ (by first | assumption | rfl) rfl rfl (Nat.le_of_ble_eq_true rfl) (by decide) pKK ?_
      refine M_X10_byteAt (B := B) hT1 (by omega) ?_
      refine pE_callS (d' := 4) (as := [_]) dX10_step_19 lkX10_54 (cwX10_sortOf _ _) svX10_sortOf rfl rfl (Nat.le_of_ble_eq_true rfl) (by decide) pKK ?_
      refine M_X10_sortOf (cbB_le hT1 _) ?_
      refine pE_iconst (v := nI 5) dX10_step_22 rfl ?_
      refine pE_icmp_ne (tgt := 39) dX10_step_23 (by decide) (fun h23 => ?_) (fun h23 => ?_)
      · have g23 := nq_ne (by omega) (by omega) h23
        have e1 : tQ B n r = r := by
          first
          | exact rE_e (by omega)
          | exact rE_n (isS_f g23)
        exact L_X10_stepB hT hp hq hx (by rw [h4, ← hQ, e1])
      · have g23 := nq_eq (by omega) (by omega) h23
        refine pE_aload_n dX10_step_26 rfl rfl ?_
        refine pE_dupR dX10_step_27 ?_
        refine pE_getI dX10_step_28 flX10_21 rfl (Or.inl rfl) (by first | assumption | rfl) ?_
        rw [h4]
        refine pE_iconst (v := nI 1) dX10_step_31 rfl ?_
        refine pE_iaddN dX10_step_32 ?_
        refine pE_putI dX10_step_33 flX10_21 ftX10 fiX10_4 rfl rfl (by first | assumption | rfl) ?_
        refine pE_goto (tgt := 0) dX10_step_36 (by decide) ?_
        refine ih (r + 1) _ (by omega) (by omega) (by rw [pu_at, if_pos ⟨rfl, rfl⟩]) (hx.pu (by omega)) ((rE_y (by omega) (isS_t g23)).symm.trans hQ)
set_option maxHeartbeats 400000 in
set_option maxRecDepth 100000 in
theorem M_X10_step {l : Launch} {X : pX} {t g : Nat} {I : pHI} {J : pHJ} {Q : pQ} {n p : Nat} {B : Nat → Nat} (hT : tpC I n B) (hp : p ≤ n) (hq : ∀ I1 J1, s4 I I1 → j4 J J1 → tkC B n p I1 J1 → Q none I1 J1 (pR t g)) (h4 : I 4 4 = nI p) : pM l X yX10_step mX10_step 5 [.ref 4] pK pK I J (pR t g) Q := by
  refine pM_of rfl (fun h => by cases h) rfl pKM (Nat.le_of_ble_eq_true rfl) ?_
  exact L_X10_stepA hT hp hq (n - p + 1) p I (by omega) hp h4 s4.rf rfl
