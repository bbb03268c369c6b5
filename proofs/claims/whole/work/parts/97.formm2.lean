/-! one step of the model's way, as its fuel counts it -/
theorem lf_2 {B : Nat → Nat} {n p : Nat} {q : Nat × Nat} (h : lfN B n p = some q) : tK B n p ≠ 1 := by
  unfold lfN at h
  split at h
  · omega
  · split at h
    · cases h
    · rename_i a b
      intro k
      refine b ?_
      have hw : ∀ i, ¬ tkWb B n p i = true := fun i z => by have := tkWb_k z; omega
      unfold mesN
      simp only [hw, if_false, Bool.false_eq_true]
section RU
variable {B : Nat → Nat} {n f p u : Nat} {st : List Nat} {o : pP} {res : pPS}
theorem ru_e {b : Bool} {e : Nat × Nat} (h : ruM B n f (b, st, .inl e) = some res) : res = .inl e := by
  cases f with
  | zero => cases h
  | succ f => cases b <;> (simp only [ruM, stM] at h; cases h; rfl)
theorem sOf_n (h : tK B n p ≠ 1) : liS o u (sOf B n p) = .inr (p, o, u) := by unfold sOf; rw [if_neg h]; rfl
theorem sOf_y (h : tK B n p = 1) : liS o u (sOf B n p) = .inl (1, tQ B n p) := by unfold sOf; rw [if_pos h]; rfl
theorem ru_s {b : Bool} {c' : pCf} (h : ruM B n f (b, st, .inr (p, o, u)) = some res) (hs : stM B n (b, st, .inr (p, o, u)) = .inl c') : ∃ f', f = f' + 1 ∧ ruM B n f' c' = some res := by
  cases f with
  | zero => cases h
  | succ f => simp only [ruM, hs] at h; exact ⟨f, rfl, h⟩
theorem ru_r {b : Bool} {r : pPS} (h : ruM B n f (b, st, .inr (p, o, u)) = some res) (hs : stM B n (b, st, .inr (p, o, u)) = .inr r) : res = r := by
  cases f with
  | zero => cases h
  | succ f => simp only [ruM, hs] at h; cases h; rfl
theorem ruU_nt (h : ruM B n f (true, st, liS o u (sOf B n p)) = some res) (h1 : tkWb B n p 11 = true) (h2 : mNt st = true) (h3 : dpL st ≤ 6) : ∃ f', f = f' + 1 ∧ ruM B n f' (true, 21 :: st, liS o u (sOf B n (tE B n p))) = some res := by
  rw [sOf_n (by have := tkWb_k h1; omega)] at h
  refine ru_s h ?_
  simp only [stM]
  rw [if_pos ⟨h1, h2⟩, if_neg (by omega)]; rfl
theorem ruU_nt7 (h : ruM B n f (true, st, liS o u (sOf B n p)) = some res) (h1 : tkWb B n p 11 = true) (h2 : mNt st = true) (h3 : 6 < dpL st) : res = .inl (2, tQ B n p) := by
  rw [sOf_n (by have := tkWb_k h1; omega)] at h
  refine ru_r h ?_
  simp only [stM]
  rw [if_pos ⟨h1, h2⟩, if_pos h3]
theorem ruU_br (h : ruM B n f (true, st, liS o u (sOf B n p)) = some res) (h1 : tkGb B n p 40 = true) (h2 : u < 30) (h3 : dpL st ≤ 6) : ∃ f', f = f' + 1 ∧ ruM B n f' (true, 20 :: st, liS o (u + 1) (sOf B n (tE B n p))) = some res := by
  have k := (tkGb_k h1).1
  rw [sOf_n (by omega)] at h
  refine ru_s h ?_
  simp only [stM]
  rw [if_neg (fun q => by have := tkWb_k q.1; omega), if_pos h1, if_neg (by omega)]; rfl
theorem ruU_br7 (h : ruM B n f (true, st, liS o u (sOf B n p)) = some res) (h1 : tkGb B n p 40 = true) (h3 : 30 ≤ u ∨ 6 < dpL st) : res = .inl (2, tQ B n p) := by
  have k := (tkGb_k h1).1
  rw [sOf_n (by omega)] at h
  refine ru_r h ?_
  simp only [stM]
  rw [if_neg (fun q => by have := tkWb_k q.1; omega), if_pos h1, if_pos h3]
theorem ruU_lf {q : Nat × Nat} (h : ruM B n f (true, st, liS o u (sOf B n p)) = some res) (h0 : ¬ (tkWb B n p 11 = true ∧ mNt st = true)) (h1 : ¬ tkGb B n p 40 = true) (h2 : lfN B n p = some q) (h3 : u < 30) : ∃ f', f = f' + 1 ∧ ruM B n f' (false, st, liS (o ++ [q]) (u + 1) (sOf B n (tE B n p))) = some res := by
  rw [sOf_n (lf_2 h2)] at h
  refine ru_s h ?_
  simp only [stM]
  rw [if_neg h0, if_neg h1, h2]
  simp only
  rw [if_neg (by omega)]; rfl
theorem ruU_no (h : ruM B n f (true, st, liS o u (sOf B n p)) = some res) (h0 : ¬ (tkWb B n p 11 = true ∧ mNt st = true)) (h1 : ¬ tkGb B n p 40 = true) (h2 : lfN B n p = none ∨ 30 ≤ u) : res = .inl (if tK B n p = 1 then 1 else 2, tQ B n p) := by
  by_cases k : tK B n p = 1
  · rw [sOf_y k] at h
    rw [ru_e h, if_pos k]
  · rw [sOf_n k] at h
    rw [if_neg k]
    refine ru_r h ?_
    simp only [stM]
    rw [if_neg h0, if_neg h1]
    cases e : lfN B n p with
    | none => rfl
    | some q =>
      rcases h2 with h2 | h2
      · rw [e] at h2; cases h2
      · simp only
        rw [if_pos h2]
theorem ruO_cb (h : ruM B n f (false, st, liS o u (sOf B n p)) = some res) (h1 : tkGb B n p 41 = true) (h2 : hBr st = true) : ∃ f', f = f' + 1 ∧ ruM B n f' (false, (clL 0 st).tail, liS (o ++ clP 0 st) u (sOf B n (tE B n p))) = some res := by
  have k := (tkGb_k h1).1
  rw [sOf_n (by omega)] at h
  refine ru_s h ?_
  simp only [stM]
  rw [if_pos ⟨h1, h2⟩]; rfl
theorem mSg_1 (h : mSg B n p ≠ 0) : tK B n p ≠ 1 := by
  rcases mSg_in h with ⟨a, b⟩ | ⟨a, b⟩ | ⟨a, b, d⟩ <;> omega
theorem ruO_sg (h : ruM B n f (false, st, liS o u (sOf B n p)) = some res) (h1 : mSg B n p ≠ 0) (h2 : ¬ (tgt (mSg B n p) = 4 ∧ hRl st = true)) : ∃ f', f = f' + 1 ∧ ruM B n f' (true, mSg B n p :: clL (tgt (mSg B n p)) st, liS (o ++ clP (tgt (mSg B n p)) st) u (sOf B n (tE B n p))) = some res := by
  rw [sOf_n (mSg_1 h1)] at h
  refine ru_s h ?_
  simp only [stM]
  rw [if_neg (fun q => (mSg_n h1).2.2.1 q.1), if_pos ⟨h1, by rw [tgP_t h1]; exact h2⟩]; rfl
theorem ruO_so (h : ruM B n f (false, st, liS o u (sOf B n p)) = some res) (k : tK B n p ≠ 1) (h1 : ¬ (tkGb B n p 41 = true ∧ hBr st = true)) (h2 : mSg B n p = 0 ∨ (tgt (mSg B n p) = 4 ∧ hRl st = true)) : res = soS B n st (p, o, u) := by
  rw [sOf_n k] at h
  refine ru_r h ?_
  simp only [stM]
  rw [if_neg h1, if_neg]
  rintro ⟨a, b⟩
  rcases h2 with h2 | h2
  · exact a h2
  · exact b ⟨by rw [tgP_t a]; exact h2.1, h2.2⟩
end RU
theorem mQ.fr {w u0 u : Nat} {st : List Nat} {o : pP} {I I1 : pHI} (h : mQ w u0 st o u I) (hx : sMR I I1) : mQ w u0 st o u I1 := by
  obtain ⟨a1, a2, a3, a4, a5, a6, a7⟩ := h
  refine ⟨(hx 67 20 (by omega)).trans a1, (hx 67 22 (by omega)).trans a2, (hx 67 24 (by omega)).trans a3, (hx 67 25 (by omega)).trans a4, a5.fr (hx 67 21 (by omega)) (fun i => hx 76 i (by omega)), a6.fr (hx 72 w (by omega)) (fun i _ => ⟨hx 70 _ (by omega), hx 71 _ (by omega)⟩), a7⟩
theorem iN_b {b : Bool} {st : List Nat} {o : pP} {u : Nat} (h : iN b st o u) : st.length ≤ 38 ∧ o.length + st.length ≤ 277 ∧ dpL st ≤ 7 ∧ u ≤ 30 := by
  unfold iN at h
  cases b <;> simp at h <;> omega
theorem mQ.opn {w u0 u c : Nat} {st : List Nat} {o : pP} {I : pHI} (h : mQ w u0 st o u I) (hc : c = 20 ∨ c = 21) : mQ w u0 (c :: st) o u (pu (pu (pu I 76 st.length (nI c)) 67 21 (nI (st.length + 1))) 67 25 (nI (dpL st + 1))) := by
  obtain ⟨a1, a2, a3, a4, a5, a6, a7⟩ := h
  refine ⟨?_, ?_, ?_, ?_, ?_, ?_, fun x hx => ?_⟩
  · rw [pu_at, if_neg (by omega), pu_at, if_neg (by omega), pu_at, if_neg (by omega)]; exact a1
  · rw [pu_at, if_neg (by omega), pu_at, if_neg (by omega), pu_at, if_neg (by omega)]; exact a2
  · rw [pu_at, if_neg (by omega), pu_at, if_neg (by omega), pu_at, if_neg (by omega)]; exact a3
  · rw [pu_at, if_pos ⟨rfl, rfl⟩, dp_y hc]
  · exact (a5.push (c := c)).fr (by rw [pu_at, if_neg (by omega)]) (fun i => by rw [pu_ne _ _ _ (by decide)])
  · exact a6.fr (by rw [pu_ne _ _ _ (by decide), pu_ne _ _ _ (by decide), pu_ne _ _ _ (by decide)]) (fun i _ => ⟨by rw [pu_ne _ _ _ (by decide), pu_ne _ _ _ (by decide), pu_ne _ _ _ (by decide)], by rw [pu_ne _ _ _ (by decide), pu_ne _ _ _ (by decide), pu_ne _ _ _ (by decide)]⟩)
  · rcases List.mem_cons.mp hx with z | z
    · rw [z]; omega
    · exact a7 x z
theorem mQ.unit {w u0 u : Nat} {st : List Nat} {o : pP} {I : pHI} (h : mQ w u0 st o u I) : mQ w u0 st o (u + 1) (pu (pu I 67 22 (nI (u0 + u + 1))) 67 24 (nI (u + 1))) := by
  obtain ⟨a1, a2, a3, a4, a5, a6, a7⟩ := h
  refine ⟨?_, ?_, ?_, ?_, ?_, ?_, a7⟩
  · rw [pu_at, if_neg (by omega), pu_at, if_neg (by omega)]; exact a1
  · rw [pu_at, if_neg (by omega), pu_at, if_pos ⟨rfl, rfl⟩]; rfl
  · rw [pu_at, if_pos ⟨rfl, rfl⟩]
  · rw [pu_at, if_neg (by omega), pu_at, if_neg (by omega)]; exact a4
  · exact a5.fr (by rw [pu_at, if_neg (by omega), pu_at, if_neg (by omega)]) (fun i => by rw [pu_ne _ _ _ (by decide), pu_ne _ _ _ (by decide)])
  · exact a6.fr (by rw [pu_ne _ _ _ (by decide), pu_ne _ _ _ (by decide)]) (fun i _ => ⟨by rw [pu_ne _ _ _ (by decide), pu_ne _ _ _ (by decide)], by rw [pu_ne _ _ _ (by decide), pu_ne _ _ _ (by decide)]⟩)
theorem mQ.step {w u0 u k m : Nat} {a b : Int32} {st : List Nat} {o : pP} {I : pHI} (h : mQ w u0 st o u I) (hw : mW k m a b) : mQ w u0 st (o ++ [(k, m)]) u (pu (pu (pu I 70 (320 * w + o.length) a) 71 (320 * w + o.length) b) 72 w (nI (o.length + 1))) := by
  obtain ⟨a1, a2, a3, a4, a5, a6, a7⟩ := h
  refine ⟨?_, ?_, ?_, ?_, ?_, a6.app hw, a7⟩
  · rw [pu_ne _ _ _ (by decide), pu_ne _ _ _ (by decide), pu_ne _ _ _ (by decide)]; exact a1
  · rw [pu_ne _ _ _ (by decide), pu_ne _ _ _ (by decide), pu_ne _ _ _ (by decide)]; exact a2
  · rw [pu_ne _ _ _ (by decide), pu_ne _ _ _ (by decide), pu_ne _ _ _ (by decide)]; exact a3
  · rw [pu_ne _ _ _ (by decide), pu_ne _ _ _ (by decide), pu_ne _ _ _ (by decide)]; exact a4
  · exact a5.fr (by rw [pu_ne _ _ _ (by decide), pu_ne _ _ _ (by decide), pu_ne _ _ _ (by decide)]) (fun i => by rw [pu_ne _ _ _ (by decide), pu_ne _ _ _ (by decide), pu_ne _ _ _ (by decide)])
theorem mR0.o {B : Nat → Nat} {n p : Nat} {I I1 : pHI} {J : pHJ} {w : Nat} (h : mR0 B n p I J) (hx : sMF w I I1) (h19 : ∀ k, k < 20 → I1 67 k = I 67 k) : mR0 B n p I1 J := h.f h19
set_option maxHeartbeats 400000 in
set_option maxRecDepth 100000 in
theorem M_X12_openUpE {l : Launch} {X : pX} {t g : Nat} {I : pHI} {J : pHJ} {Q : pQ} {e : Nat × Nat} {k d c : Nat} (hf : mFa I e) (h21 : I 67 21 = nI k) (hk : k < 160) (h25 : I 67 25 = nI d) (hq : Q none (pu (pu (pu I 76 k (nI c)) 67 21 (nI (k + 1))) 67 25 (nI (d + 1))) J (pR t g)) : pM l X yX12_openUp mX12_openUp 3 [.ref 67, .int (nI c)] pK pK I J (pR t g) Q := by
  have h1 := hf.2.1
  refine pM_of rfl (fun h => by cases h) rfl pKM (Nat.le_of_ble_eq_true rfl) ?_
  refine pE_aload_n dX12_openUp_0 rfl rfl ?_
  refine pE_getR dX12_openUp_1 flX12_39 rfl (by first | assumption | rfl) (by first | assumption | rfl) ?_
  refine pE_aload_n dX12_openUp_4 rfl rfl ?_
  refine pE_getI dX12_openUp_5 flX12_254 rfl (Or.inl rfl) (by first | assumption | rfl) ?_
  rw [h21]
  refine pE_iload_n dX12_openUp_8 rfl rfl ?_
  refine pE_iastoreN dX12_openUp_9 (by first | assumption | rfl) (by first | assumption | omega) (by omega) ?_
  refine pE_aload_n dX12_openUp_10 rfl rfl ?_
  refine pE_dupR dX12_openUp_11 ?_
  refine pE_getI dX12_openUp_12 flX12_254 rfl (Or.inl rfl) (by first | assumption | rfl) ?_
  rw [pu_ne _ _ _ (show (67 : Nat) ≠ 76 by decide), h21]
  refine pE_iconst (v := nI 1) dX12_openUp_15 rfl ?_
  refine pE_iaddN dX12_openUp_16 ?_
  refine pE_putI dX12_openUp_17 flX12_254 ftX12 fiX12_21 rfl rfl (by first | assumption | rfl) ?_
  refine pE_aload_n dX12_openUp_20 rfl rfl ?_
  refine pE_dupR dX12_openUp_21 ?_
  refine pE_getI dX12_openUp_22 flX12_264 rfl (Or.inl rfl) (by first | assumption | rfl) ?_
  rw [pu_at, if_neg (by omega), pu_ne _ _ _ (show (67 : Nat) ≠ 76 by decide), h25]
  refine pE_iconst (v := nI 1) dX12_openUp_25 rfl ?_
  refine pE_iaddN dX12_openUp_26 ?_
  refine pE_putI dX12_openUp_27 flX12_264 ftX12 fiX12_25 rfl rfl (by first | assumption | rfl) ?_
  refine pE_aload_n dX12_openUp_30 rfl rfl ?_
  refine pE_getI dX12_openUp_31 flX12_182 rfl (Or.inl rfl) (by first | assumption | rfl) ?_
  rw [pu_at, if_neg (by omega), pu_at, if_neg (by omega), pu_ne _ _ _ (show (67 : Nat) ≠ 76 by decide), hf.1]
  refine pE_if_ne (tgt := 41) dX12_openUp_34 (by decide) (fun h34 => ?_) (fun h34 => ?_)
  · have g34 := nq_ne0 (by omega) h34
    refine pE_vret dX12_openUp_41 rfl rfl ?_
    exact hq
  · have g34 := nq_eq0 (by omega) h34
    omega
set_option maxHeartbeats 400000 in
set_option maxRecDepth 100000 in
theorem M_X12_openUpO {l : Launch} {X : pX} {t g : Nat} {I : pHI} {J : pHJ} {Q : pQ} {n p k d c : Nat} {B : Nat → Nat} (hT : tpM I n B) (hr : mR0 B n p I J) (hk1 : tK B n p ≠ 1) (h21 : I 67 21 = nI k) (hk : k < 160) (h25 : I 67 25 = nI d) (hq : ∀ I1 J1, sMR (pu (pu (pu I 76 k (nI c)) 67 21 (nI (k + 1))) 67 25 (nI (d + 1))) I1 → jM J J1 → mR0 B n (tE B n p) I1 J1 → Q none I1 J1 (pR t g)) : pM l X yX12_openUp mX12_openUp 3 [.ref 67, .int (nI c)] pK pK I J (pR t g) Q := by
  refine pM_of rfl (fun h => by cases h) rfl pKM (Nat.le_of_ble_eq_true rfl) ?_
  refine pE_aload_n dX12_openUp_0 rfl rfl ?_
  refine pE_getR dX12_openUp_1 flX12_39 rfl (by first | assumption | rfl) (by first | assumption | rfl) ?_
  refine pE_aload_n dX12_openUp_4 rfl rfl ?_
  refine pE_getI dX12_openUp_5 flX12_254 rfl (Or.inl rfl) (by first | assumption | rfl) ?_
  rw [h21]
  refine pE_iload_n dX12_openUp_8 rfl rfl ?_
  refine pE_iastoreN dX12_openUp_9 (by first | assumption | rfl) (by first | assumption | omega) (by omega) ?_
  refine pE_aload_n dX12_openUp_10 rfl rfl ?_
  refine pE_dupR dX12_openUp_11 ?_
  refine pE_getI dX12_openUp_12 flX12_254 rfl (Or.inl rfl) (by first | assumption | rfl) ?_
  rw [pu_ne _ _ _ (show (67 : Nat) ≠ 76 by decide), h21]
  refine pE_iconst (v := nI 1) dX12_openUp_15 rfl ?_
  refine pE_iaddN dX12_openUp_16 ?_
  refine pE_putI dX12_openUp_17 flX12_254 ftX12 fiX12_21 rfl rfl (by first | assumption | rfl) ?_
  refine pE_aload_n dX12_openUp_20 rfl rfl ?_
  refine pE_dupR dX12_openUp_21 ?_
  refine pE_getI dX12_openUp_22 flX12_264 rfl (Or.inl rfl) (by first | assumption | rfl) ?_
  rw [pu_at, if_neg (by omega), pu_ne _ _ _ (show (67 : Nat) ≠ 76 by decide), h25]
  refine pE_iconst (v := nI 1) dX12_openUp_25 rfl ?_
  refine pE_iaddN dX12_openUp_26 ?_
  refine pE_putI dX12_openUp_27 flX12_264 ftX12 fiX12_25 rfl rfl (by first | assumption | rfl) ?_
  refine pE_aload_n dX12_openUp_30 rfl rfl ?_
  refine pE_getI dX12_openUp_31 flX12_182 rfl (Or.inl rfl) (by first | assumption | rfl) ?_
  rw [pu_at, if_neg (by omega), pu_at, if_neg (by omega), pu_ne _ _ _ (show (67 : Nat) ≠ 76 by decide), hr.1]
  refine pE_if_ne (tgt := 41) dX12_openUp_34 (by decide) (fun h34 => ?_) (fun h34 => ?_)
  · have g34 := nq_ne0 (by omega) h34
    omega
  · have g34 := nq_eq0 (by omega) h34
    refine pE_aload_n dX12_openUp_37 rfl rfl ?_
    refine pE_callV (d' := 2) (as := []) dX12_openUp_38 lkX12_230 (cwX12_token _ _) ivX12_token ⟨_, rfl, rfl⟩ (by first | assumption | rfl) rfl rfl (Nat.le_of_ble_eq_true rfl) (by decide) pKK ?_
    refine M_X12_tokenN (hT.fr (by rw [pu_at, if_neg (by omega), pu_at, if_neg (by omega), pu_ne _ _ _ (by decide)]) (fun i => by rw [pu_ne _ _ _ (by decide), pu_ne _ _ _ (by decide), pu_ne _ _ _ (by decide)])) (hr.f (fun k hk => by rw [pu_at, if_neg (by omega), pu_at, if_neg (by omega), pu_ne _ _ _ (by decide)])) hk1 (fun I1 J1 x1 y1 x2 => ?_)
    refine pE_vret dX12_openUp_41 rfl rfl ?_
    exact hq I1 J1 x1 y1 x2
theorem mSg_op {B : Nat → Nat} {n p c : Nat} (h : tkGb B n p c = true) (hc : isOp c = true) : mSg B n p = c := by
  obtain ⟨h1, h2⟩ := tkGb_k h
  unfold mSg
  rw [if_neg (fun q => by have := tkWb_k q; omega), if_neg (fun q => by have := tkWb_k q; omega), if_pos ⟨h1, by rw [h2]; exact hc⟩, h2]
set_option maxHeartbeats 400000 in
set_option maxRecDepth 100000 in
theorem M_X12_sign {l : Launch} {X : pX} {t g : Nat} {I : pHI} {J : pHJ} {Q : pQ} {n p : Nat} {B : Nat → Nat} (hr : mR0 B n p I J) (hq : Q (some (.int (nI (mSg B n p)))) I J (pR t g)) : pM l X yX12_sign mX12_sign 1 [.ref 67] pK pK I J (pR t g) Q := by
  have hp := hr.2.2.1
  have hk := hr.2.2.2
  have hm := mKd_b (B := B) hp
  refine pM_of rfl (fun h => by cases h) rfl pKM (Nat.le_of_ble_eq_true rfl) ?_
  refine pE_aload_n dX12_sign_0 rfl rfl ?_
  refine pE_ldc2 dX12_sign_1 kcX12_213 ?_
  rw [show (6385252 : Int64) = mwJ (kwL 15) from mwk.2.2.2.2.2.2.2.2.2.2.2.2.2.1.symm]
  refine pE_callV (d' := 0) (as := [_]) dX12_sign_4 lkX12_223 (cwX12_isWord _ _) ivX12_isWord ⟨_, rfl, rfl⟩ (by first | assumption | rfl) rfl rfl (Nat.le_of_ble_eq_true rfl) (by decide) pKK ?_
  refine M_X12_isWord hr (show 15 ∈ ownI by decide) (fun z15 => ?_) (fun z15 => ?_)
  · refine pE_if_eq_f (tgt := 13) dX12_sign_7 (by decide) nI_1n0 ?_
    refine pE_bipush (v := nI 38) dX12_sign_10 rfl ?_
    refine pE_iret dX12_sign_12 rfl rfl ?_
    have e : mSg B n p = 38 := by unfold mSg; rw [if_pos z15]
    rw [e] at hq; exact hq
  · refine pE_if_eq_t (tgt := 13) dX12_sign_7 (by decide) nI_0 ?_
    refine pE_aload_n dX12_sign_13 rfl rfl ?_
    refine pE_ldc2 dX12_sign_14 kcX12_215 ?_
    rw [show (28530 : Int64) = mwJ (kwL 16) from mwk.2.2.2.2.2.2.2.2.2.2.2.2.2.2.1.symm]
    refine pE_callV (d' := 0) (as := [_]) dX12_sign_17 lkX12_223 (cwX12_isWord _ _) ivX12_isWord ⟨_, rfl, rfl⟩ (by first | assumption | rfl) rfl rfl (Nat.le_of_ble_eq_true rfl) (by decide) pKK ?_
    refine M_X12_isWord hr (show 16 ∈ ownI by decide) (fun z16 => ?_) (fun z16 => ?_)
    · refine pE_if_eq_f (tgt := 26) dX12_sign_20 (by decide) nI_1n0 ?_
      refine pE_bipush (v := nI 124) dX12_sign_23 rfl ?_
      refine pE_iret dX12_sign_25 rfl rfl ?_
      have e : mSg B n p = 124 := by unfold mSg; rw [if_neg z15, if_pos z16]
      rw [e] at hq; exact hq
    · refine pE_if_eq_t (tgt := 26) dX12_sign_20 (by decide) nI_0 ?_
      refine pE_aload_n dX12_sign_26 rfl rfl ?_
      refine pE_getI dX12_sign_27 flX12_169 rfl (Or.inl rfl) (by first | assumption | rfl) ?_
      rw [hk.1]
      refine pE_bipush (v := nI 60) dX12_sign_30 rfl ?_
      refine pE_icmp_eq (tgt := 98) dX12_sign_32 (by decide) (fun h32 => ?_) (fun h32 => ?_)
      · have g32 := nq_eq (by omega) (by omega) h32
        refine pE_aload_n dX12_sign_98 rfl rfl ?_
        refine pE_getI dX12_sign_99 flX12_169 rfl (Or.inl rfl) (by first | assumption | rfl) ?_
        rw [hk.1]
        refine pE_goto (tgt := 106) dX12_sign_102 (by decide) ?_
        refine pE_iret dX12_sign_106 rfl rfl ?_
        first
        | (have e := mSg_op ((hm.2.2.2.2.2 60 (by omega)).mp g32) (by rfl)
           rw [e] at hq; rw [g32]; exact hq)
        | (have e := mSg_op ((hm.2.2.2.2.2 62 (by omega)).mp g41) (by rfl)
           rw [e] at hq; rw [g41]; exact hq)
        | (have e := mSg_op ((hm.2.2.2.2.2 61 (by omega)).mp g50) (by rfl)
           rw [e] at hq; rw [g50]; exact hq)
        | (have e := mSg_op ((hm.2.2.2.2.2 43 (by omega)).mp g59) (by rfl)
           rw [e] at hq; rw [g59]; exact hq)
        | (have e := mSg_op ((hm.2.2.2.2.2 45 (by omega)).mp g68) (by rfl)
           rw [e] at hq; rw [g68]; exact hq)
        | (have e := mSg_op ((hm.2.2.2.2.2 42 (by omega)).mp g77) (by rfl)
           rw [e] at hq; rw [g77]; exact hq)
        | (have e := mSg_op ((hm.2.2.2.2.2 47 (by omega)).mp g86) (by rfl)
           rw [e] at hq; rw [g86]; exact hq)
        | (have e := mSg_op ((hm.2.2.2.2.2 37 (by omega)).mp g95) (by rfl)
           rw [e] at hq; rw [g95]; exact hq)
        | (have e : mSg B n p = 0 := by
             unfold mSg
             rw [if_neg z15, if_neg z16, if_neg]
             rintro ⟨a, b⟩
             have k : ∀ c, 4 ≤ c → mKd B n p ≠ c → tC B n p ≠ c := fun c hc h z => h ((hm.2.2.2.2.2 c hc).mpr (by unfold tkGb; rw [a, z]; simp))
             rcases isOp_in b with z | z | z | z | z | z | z | z
             · exact k 60 (by omega) g32 z
             · exact k 62 (by omega) g41 z
             · exact k 61 (by omega) g50 z
             · exact k 43 (by omega) g59 z
             · exact k 45 (by omega) g68 z
             · exact k 42 (by omega) g77 z
             · exact k 47 (by omega) g86 z
             · exact k 37 (by omega) g95 z
           rw [e] at hq; exact hq)
      · have g32 := nq_ne (by omega) (by omega) h32
        refine pE_aload_n dX12_sign_35 rfl rfl ?_
        refine pE_getI dX12_sign_36 flX12_169 rfl (Or.inl rfl) (by first | assumption | rfl) ?_
        rw [hk.1]
        refine pE_bipush (v := nI 62) dX12_sign_39 rfl ?_
        refine pE_icmp_eq (tgt := 98) dX12_sign_41 (by decide) (fun h41 => ?_) (fun h41 => ?_)
        · have g41 := nq_eq (by omega) (by omega) h41
          refine pE_aload_n dX12_sign_98 rfl rfl ?_
          refine pE_getI dX12_sign_99 flX12_169 rfl (Or.inl rfl) (by first | assumption | rfl) ?_
          rw [hk.1]
          refine pE_goto (tgt := 106) dX12_sign_102 (by decide) ?_
          refine pE_iret dX12_sign_106 rfl rfl ?_
          first
          | (have e := mSg_op ((hm.2.2.2.2.2 60 (by omega)).mp g32) (by rfl)
             rw [e] at hq; rw [g32]; exact hq)
          | (have e := mSg_op ((hm.2.2.2.2.2 62 (by omega)).mp g41) (by rfl)
             rw [e] at hq; rw [g41]; exact hq)
          | (have e := mSg_op ((hm.2.2.2.2.2 61 (by omega)).mp g50) (by rfl)
             rw [e] at hq; rw [g50]; exact hq)
          | (have e := mSg_op ((hm.2.2.2.2.2 43 (by omega)).mp g59) (by rfl)
             rw [e] at hq; rw [g59]; exact hq)
          | (have e := mSg_op ((hm.2.2.2.2.2 45 (by omega)).mp g68) (by rfl)
             rw [e] at hq; rw [g68]; exact hq)
          | (have e := mSg_op ((hm.2.2.2.2.2 42 (by omega)).mp g77) (by rfl)
             rw [e] at hq; rw [g77]; exact hq)
          | (have e := mSg_op ((hm.2.2.2.2.2 47 (by omega)).mp g86) (by rfl)
             rw [e] at hq; rw [g86]; exact hq)
          | (have e := mSg_op ((hm.2.2.2.2.2 37 (by omega)).mp g95) (by rfl)
             rw [e] at hq; rw [g95]; exact hq)
          | (have e : mSg B n p = 0 := by
               unfold mSg
               rw [if_neg z15, if_neg z16, if_neg]
               rintro ⟨a, b⟩
               have k : ∀ c, 4 ≤ c → mKd B n p ≠ c → tC B n p ≠ c := fun c hc h z => h ((hm.2.2.2.2.2 c hc).mpr (by unfold tkGb; rw [a, z]; simp))
               rcases isOp_in b with z | z | z | z | z | z | z | z
               · exact k 60 (by omega) g32 z
               · exact k 62 (by omega) g41 z
               · exact k 61 (by omega) g50 z
               · exact k 43 (by omega) g59 z
               · exact k 45 (by omega) g68 z
               · exact k 42 (by omega) g77 z
               · exact k 47 (by omega) g86 z
               · exact k 37 (by omega) g95 z
             rw [e] at hq; exact hq)
        · have g41 := nq_ne (by omega) (by omega) h41
          refine pE_aload_n dX12_sign_44 rfl rfl ?_
          refine pE_getI dX12_sign_45 flX12_169 rfl (Or.inl rfl) (by first | assumption | rfl) ?_
          rw [hk.1]
          refine pE_bipush (v := nI 61) dX12_sign_48 rfl ?_
          refine pE_icmp_eq (tgt := 98) dX12_sign_50 (by decide) (fun h50 => ?_) (fun h50 => ?_)
          · have g50 := nq_eq (by omega) (by omega) h50
            refine pE_aload_n dX12_sign_98 rfl rfl ?_
            refine pE_getI dX12_sign_99 flX12_169 rfl (Or.inl rfl) (by first | assumption | rfl) ?_
            rw [hk.1]
            refine pE_goto (tgt := 106) dX12_sign_102 (by decide) ?_
            refine pE_iret dX12_sign_106 rfl rfl ?_
            first
            | (have e := mSg_op ((hm.2.2.2.2.2 60 (by omega)).mp g32) (by rfl)
               rw [e] at hq; rw [g32]; exact hq)
            | (have e := mSg_op ((hm.2.2.2.2.2 62 (by omega)).mp g41) (by rfl)
               rw [e] at hq; rw [g41]; exact hq)
            | (have e := mSg_op ((hm.2.2.2.2.2 61 (by omega)).mp g50) (by rfl)
               rw [e] at hq; rw [g50]; exact hq)
            | (have e := mSg_op ((hm.2.2.2.2.2 43 (by omega)).mp g59) (by rfl)
               rw [e] at hq; rw [g59]; exact hq)
            | (have e := mSg_op ((hm.2.2.2.2.2 45 (by omega)).mp g68) (by rfl)
               rw [e] at hq; rw [g68]; exact hq)
            | (have e := mSg_op ((hm.2.2.2.2.2 42 (by omega)).mp g77) (by rfl)
               rw [e] at hq; rw [g77]; exact hq)
            | (have e := mSg_op ((hm.2.2.2.2.2 47 (by omega)).mp g86) (by rfl)
               rw [e] at hq; rw [g86]; exact hq)
            | (have e := mSg_op ((hm.2.2.2.2.2 37 (by omega)).mp g95) (by rfl)
               rw [e] at hq; rw [g95]; exact hq)
            | (have e : mSg B n p = 0 := by
                 unfold mSg
                 rw [if_neg z15, if_neg z16, if_neg]
                 rintro ⟨a, b⟩
                 have k : ∀ c, 4 ≤ c → mKd B n p ≠ c → tC B n p ≠ c := fun c hc h z => h ((hm.2.2.2.2.2 c hc).mpr (by unfold tkGb; rw [a, z]; simp))
                 rcases isOp_in b with z | z | z | z | z | z | z | z
                 · exact k 60 (by omega) g32 z
                 · exact k 62 (by omega) g41 z
                 · exact k 61 (by omega) g50 z
                 · exact k 43 (by omega) g59 z
                 · exact k 45 (by omega) g68 z
                 · exact k 42 (by omega) g77 z
                 · exact k 47 (by omega) g86 z
                 · exact k 37 (by omega) g95 z
               rw [e] at hq; exact hq)
          · have g50 := nq_ne (by omega) (by omega) h50
            refine pE_aload_n dX12_sign_53 rfl rfl ?_
            refine pE_getI dX12_sign_54 flX12_169 rfl (Or.inl rfl) (by first | assumption | rfl) ?_
            rw [hk.1]
            refine pE_bipush (v := nI 43) dX12_sign_57 rfl ?_
            refine pE_icmp_eq (tgt := 98) dX12_sign_59 (by decide) (fun h59 => ?_) (fun h59 => ?_)
            · have g59 := nq_eq (by omega) (by omega) h59
              refine pE_aload_n dX12_sign_98 rfl rfl ?_
              refine pE_getI dX12_sign_99 flX12_169 rfl (Or.inl rfl) (by first | assumption | rfl) ?_
              rw [hk.1]
              refine pE_goto (tgt := 106) dX12_sign_102 (by decide) ?_
              refine pE_iret dX12_sign_106 rfl rfl ?_
              first
              | (have e := mSg_op ((hm.2.2.2.2.2 60 (by omega)).mp g32) (by rfl)
                 rw [e] at hq; rw [g32]; exact hq)
              | (have e := mSg_op ((hm.2.2.2.2.2 62 (by omega)).mp g41) (by rfl)
                 rw [e] at hq; rw [g41]; exact hq)
              | (have e := mSg_op ((hm.2.2.2.2.2 61 (by omega)).mp g50) (by rfl)
                 rw [e] at hq; rw [g50]; exact hq)
              | (have e := mSg_op ((hm.2.2.2.2.2 43 (by omega)).mp g59) (by rfl)
                 rw [e] at hq; rw [g59]; exact hq)
              | (have e := mSg_op ((hm.2.2.2.2.2 45 (by omega)).mp g68) (by rfl)
                 rw [e] at hq; rw [g68]; exact hq)
              | (have e := mSg_op ((hm.2.2.2.2.2 42 (by omega)).mp g77) (by rfl)
                 rw [e] at hq; rw [g77]; exact hq)
              | (have e := mSg_op ((hm.2.2.2.2.2 47 (by omega)).mp g86) (by rfl)
                 rw [e] at hq; rw [g86]; exact hq)
              | (have e := mSg_op ((hm.2.2.2.2.2 37 (by omega)).mp g95) (by rfl)
                 rw [e] at hq; rw [g95]; exact hq)
              | (have e : mSg B n p = 0 := by
                   unfold mSg
                   rw [if_neg z15, if_neg z16, if_neg]
                   rintro ⟨a, b⟩
                   have k : ∀ c, 4 ≤ c → mKd B n p ≠ c → tC B n p ≠ c := fun c hc h z => h ((hm.2.2.2.2.2 c hc).mpr (by unfold tkGb; rw [a, z]; simp))
                   rcases isOp_in b with z | z | z | z | z | z | z | z
                   · exact k 60 (by omega) g32 z
                   · exact k 62 (by omega) g41 z
                   · exact k 61 (by omega) g50 z
                   · exact k 43 (by omega) g59 z
                   · exact k 45 (by omega) g68 z
                   · exact k 42 (by omega) g77 z
                   · exact k 47 (by omega) g86 z
                   · exact k 37 (by omega) g95 z
                 rw [e] at hq; exact hq)
            · have g59 := nq_ne (by omega) (by omega) h59
              refine pE_aload_n dX12_sign_62 rfl rfl ?_
              refine pE_getI dX12_sign_63 flX12_169 rfl (Or.inl rfl) (by first | assumption | rfl) ?_
              rw [hk.1]
              refine pE_bipush (v := nI 45) dX12_sign_66 rfl ?_
              refine pE_icmp_eq (tgt := 98) dX12_sign_68 (by decide) (fun h68 => ?_) (fun h68 => ?_)
              · have g68 := nq_eq (by omega) (by omega) h68
                refine pE_aload_n dX12_sign_98 rfl rfl ?_
                refine pE_getI dX12_sign_99 flX12_169 rfl (Or.inl rfl) (by first | assumption | rfl) ?_
                rw [hk.1]
                refine pE_goto (tgt := 106) dX12_sign_102 (by decide) ?_
                refine pE_iret dX12_sign_106 rfl rfl ?_
                first
                | (have e := mSg_op ((hm.2.2.2.2.2 60 (by omega)).mp g32) (by rfl)
                   rw [e] at hq; rw [g32]; exact hq)
                | (have e := mSg_op ((hm.2.2.2.2.2 62 (by omega)).mp g41) (by rfl)
                   rw [e] at hq; rw [g41]; exact hq)
                | (have e := mSg_op ((hm.2.2.2.2.2 61 (by omega)).mp g50) (by rfl)
                   rw [e] at hq; rw [g50]; exact hq)
                | (have e := mSg_op ((hm.2.2.2.2.2 43 (by omega)).mp g59) (by rfl)
                   rw [e] at hq; rw [g59]; exact hq)
                | (have e := mSg_op ((hm.2.2.2.2.2 45 (by omega)).mp g68) (by rfl)
                   rw [e] at hq; rw [g68]; exact hq)
                | (have e := mSg_op ((hm.2.2.2.2.2 42 (by omega)).mp g77) (by rfl)
                   rw [e] at hq; rw [g77]; exact hq)
                | (have e := mSg_op ((hm.2.2.2.2.2 47 (by omega)).mp g86) (by rfl)
                   rw [e] at hq; rw [g86]; exact hq)
                | (have e := mSg_op ((hm.2.2.2.2.2 37 (by omega)).mp g95) (by rfl)
                   rw [e] at hq; rw [g95]; exact hq)
                | (have e : mSg B n p = 0 := by
                     unfold mSg
                     rw [if_neg z15, if_neg z16, if_neg]
                     rintro ⟨a, b⟩
                     have k : ∀ c, 4 ≤ c → mKd B n p ≠ c → tC B n p ≠ c := fun c hc h z => h ((hm.2.2.2.2.2 c hc).mpr (by unfold tkGb; rw [a, z]; simp))
                     rcases isOp_in b with z | z | z | z | z | z | z | z
                     · exact k 60 (by omega) g32 z
                     · exact k 62 (by omega) g41 z
                     · exact k 61 (by omega) g50 z
                     · exact k 43 (by omega) g59 z
                     · exact k 45 (by omega) g68 z
                     · exact k 42 (by omega) g77 z
                     · exact k 47 (by omega) g86 z
                     · exact k 37 (by omega) g95 z
                   rw [e] at hq; exact hq)
              · have g68 := nq_ne (by omega) (by omega) h68
                refine pE_aload_n dX12_sign_71 rfl rfl ?_
                refine pE_getI dX12_sign_72 flX12_169 rfl (Or.inl rfl) (by first | assumption | rfl) ?_
                rw [hk.1]
                refine pE_bipush (v := nI 42) dX12_sign_75 rfl ?_
                refine pE_icmp_eq (tgt := 98) dX12_sign_77 (by decide) (fun h77 => ?_) (fun h77 => ?_)
                · have g77 := nq_eq (by omega) (by omega) h77
                  refine pE_aload_n dX12_sign_98 rfl rfl ?_
                  refine pE_getI dX12_sign_99 flX12_169 rfl (Or.inl rfl) (by first | assumption | rfl) ?_
                  rw [hk.1]
                  refine pE_goto (tgt := 106) dX12_sign_102 (by decide) ?_
                  refine pE_iret dX12_sign_106 rfl rfl ?_
                  first
                  | (have e := mSg_op ((hm.2.2.2.2.2 60 (by omega)).mp g32) (by rfl)
                     rw [e] at hq; rw [g32]; exact hq)
                  | (have e := mSg_op ((hm.2.2.2.2.2 62 (by omega)).mp g41) (by rfl)
                     rw [e] at hq; rw [g41]; exact hq)
                  | (have e := mSg_op ((hm.2.2.2.2.2 61 (by omega)).mp g50) (by rfl)
                     rw [e] at hq; rw [g50]; exact hq)
                  | (have e := mSg_op ((hm.2.2.2.2.2 43 (by omega)).mp g59) (by rfl)
                     rw [e] at hq; rw [g59]; exact hq)
                  | (have e := mSg_op ((hm.2.2.2.2.2 45 (by omega)).mp g68) (by rfl)
                     rw [e] at hq; rw [g68]; exact hq)
                  | (have e := mSg_op ((hm.2.2.2.2.2 42 (by omega)).mp g77) (by rfl)
                     rw [e] at hq; rw [g77]; exact hq)
                  | (have e := mSg_op ((hm.2.2.2.2.2 47 (by omega)).mp g86) (by rfl)
                     rw [e] at hq; rw [g86]; exact hq)
                  | (have e := mSg_op ((hm.2.2.2.2.2 37 (by omega)).mp g95) (by rfl)
                     rw [e] at hq; rw [g95]; exact hq)
                  | (have e : mSg B n p = 0 := by
                       unfold mSg
                       rw [if_neg z15, if_neg z16, if_neg]
                       rintro ⟨a, b⟩
                       have k : ∀ c, 4 ≤ c → mKd B n p ≠ c → tC B n p ≠ c := fun c hc h z => h ((hm.2.2.2.2.2 c hc).mpr (by unfold tkGb; rw [a, z]; simp))
                       rcases isOp_in b with z | z | z | z | z | z | z | z
                       · exact k 60 (by omega) g32 z
                       · exact k 62 (by omega) g41 z
                       · exact k 61 (by omega) g50 z
                       · exact k 43 (by omega) g59 z
                       · exact k 45 (by omega) g68 z
                       · exact k 42 (by omega) g77 z
                       · exact k 47 (by omega) g86 z
                       · exact k 37 (by omega) g95 z
                     rw [e] at hq; exact hq)
                · have g77 := nq_ne (by omega) (by omega) h77
                  refine pE_aload_n dX12_sign_80 rfl rfl ?_
                  refine pE_getI dX12_sign_81 flX12_169 rfl (Or.inl rfl) (by first | assumption | rfl) ?_
                  rw [hk.1]
                  refine pE_bipush (v := nI 47) dX12_sign_84 rfl ?_
                  refine pE_icmp_eq (tgt := 98) dX12_sign_86 (by decide) (fun h86 => ?_) (fun h86 => ?_)
                  · have g86 := nq_eq (by omega) (by omega) h86
                    refine pE_aload_n dX12_sign_98 rfl rfl ?_
                    refine pE_getI dX12_sign_99 flX12_169 rfl (Or.inl rfl) (by first | assumption | rfl) ?_
                    rw [hk.1]
                    refine pE_goto (tgt := 106) dX12_sign_102 (by decide) ?_
                    refine pE_iret dX12_sign_106 rfl rfl ?_
                    first
                    | (have e := mSg_op ((hm.2.2.2.2.2 60 (by omega)).mp g32) (by rfl)
                       rw [e] at hq; rw [g32]; exact hq)
                    | (have e := mSg_op ((hm.2.2.2.2.2 62 (by omega)).mp g41) (by rfl)
                       rw [e] at hq; rw [g41]; exact hq)
                    | (have e := mSg_op ((hm.2.2.2.2.2 61 (by omega)).mp g50) (by rfl)
                       rw [e] at hq; rw [g50]; exact hq)
                    | (have e := mSg_op ((hm.2.2.2.2.2 43 (by omega)).mp g59) (by rfl)
                       rw [e] at hq; rw [g59]; exact hq)
                    | (have e := mSg_op ((hm.2.2.2.2.2 45 (by omega)).mp g68) (by rfl)
                       rw [e] at hq; rw [g68]; exact hq)
                    | (have e := mSg_op ((hm.2.2.2.2.2 42 (by omega)).mp g77) (by rfl)
                       rw [e] at hq; rw [g77]; exact hq)
                    | (have e := mSg_op ((hm.2.2.2.2.2 47 (by omega)).mp g86) (by rfl)
                       rw [e] at hq; rw [g86]; exact hq)
                    | (have e := mSg_op ((hm.2.2.2.2.2 37 (by omega)).mp g95) (by rfl)
                       rw [e] at hq; rw [g95]; exact hq)
                    | (have e : mSg B n p = 0 := by
                         unfold mSg
                         rw [if_neg z15, if_neg z16, if_neg]
                         rintro ⟨a, b⟩
                         have k : ∀ c, 4 ≤ c → mKd B n p ≠ c → tC B n p ≠ c := fun c hc h z => h ((hm.2.2.2.2.2 c hc).mpr (by unfold tkGb; rw [a, z]; simp))
                         rcases isOp_in b with z | z | z | z | z | z | z | z
                         · exact k 60 (by omega) g32 z
                         · exact k 62 (by omega) g41 z
                         · exact k 61 (by omega) g50 z
                         · exact k 43 (by omega) g59 z
                         · exact k 45 (by omega) g68 z
                         · exact k 42 (by omega) g77 z
                         · exact k 47 (by omega) g86 z
                         · exact k 37 (by omega) g95 z
                       rw [e] at hq; exact hq)
                  · have g86 := nq_ne (by omega) (by omega) h86
                    refine pE_aload_n dX12_sign_89 rfl rfl ?_
                    refine pE_getI dX12_sign_90 flX12_169 rfl (Or.inl rfl) (by first | assumption | rfl) ?_
                    rw [hk.1]
                    refine pE_bipush (v := nI 37) dX12_sign_93 rfl ?_
                    refine pE_icmp_ne (tgt := 105) dX12_sign_95 (by decide) (fun h95 => ?_) (fun h95 => ?_)
                    · have g95 := nq_ne (by omega) (by omega) h95
                      refine pE_iconst (v := nI 0) dX12_sign_105 rfl ?_
                      refine pE_iret dX12_sign_106 rfl rfl ?_
                      first
                      | (have e := mSg_op ((hm.2.2.2.2.2 60 (by omega)).mp g32) (by rfl)
                         rw [e] at hq; rw [g32]; exact hq)
                      | (have e := mSg_op ((hm.2.2.2.2.2 62 (by omega)).mp g41) (by rfl)
                         rw [e] at hq; rw [g41]; exact hq)
                      | (have e := mSg_op ((hm.2.2.2.2.2 61 (by omega)).mp g50) (by rfl)
                         rw [e] at hq; rw [g50]; exact hq)
                      | (have e := mSg_op ((hm.2.2.2.2.2 43 (by omega)).mp g59) (by rfl)
                         rw [e] at hq; rw [g59]; exact hq)
                      | (have e := mSg_op ((hm.2.2.2.2.2 45 (by omega)).mp g68) (by rfl)
                         rw [e] at hq; rw [g68]; exact hq)
                      | (have e := mSg_op ((hm.2.2.2.2.2 42 (by omega)).mp g77) (by rfl)
                         rw [e] at hq; rw [g77]; exact hq)
                      | (have e := mSg_op ((hm.2.2.2.2.2 47 (by omega)).mp g86) (by rfl)
                         rw [e] at hq; rw [g86]; exact hq)
                      | (have e := mSg_op ((hm.2.2.2.2.2 37 (by omega)).mp g95) (by rfl)
                         rw [e] at hq; rw [g95]; exact hq)
                      | (have e : mSg B n p = 0 := by
                           unfold mSg
                           rw [if_neg z15, if_neg z16, if_neg]
                           rintro ⟨a, b⟩
                           have k : ∀ c, 4 ≤ c → mKd B n p ≠ c → tC B n p ≠ c := fun c hc h z => h ((hm.2.2.2.2.2 c hc).mpr (by unfold tkGb; rw [a, z]; simp))
                           rcases isOp_in b with z | z | z | z | z | z | z | z
                           · exact k 60 (by omega) g32 z
                           · exact k 62 (by omega) g41 z
                           · exact k 61 (by omega) g50 z
                           · exact k 43 (by omega) g59 z
                           · exact k 45 (by omega) g68 z
                           · exact k 42 (by omega) g77 z
                           · exact k 47 (by omega) g86 z
                           · exact k 37 (by omega) g95 z
                         rw [e] at hq; exact hq)
                    · have g95 := nq_eq (by omega) (by omega) h95
                      refine pE_aload_n dX12_sign_98 rfl rfl ?_
                      refine pE_getI dX12_sign_99 flX12_169 rfl (Or.inl rfl) (by first | assumption | rfl) ?_
                      rw [hk.1]
                      refine pE_goto (tgt := 106) dX12_sign_102 (by decide) ?_
                      refine pE_iret dX12_sign_106 rfl rfl ?_
                      first
                      | (have e := mSg_op ((hm.2.2.2.2.2 60 (by omega)).mp g32) (by rfl)
                         rw [e] at hq; rw [g32]; exact hq)
                      | (have e := mSg_op ((hm.2.2.2.2.2 62 (by omega)).mp g41) (by rfl)
                         rw [e] at hq; rw [g41]; exact hq)
                      | (have e := mSg_op ((hm.2.2.2.2.2 61 (by omega)).mp g50) (by rfl)
                         rw [e] at hq; rw [g50]; exact hq)
                      | (have e := mSg_op ((hm.2.2.2.2.2 43 (by omega)).mp g59) (by rfl)
                         rw [e] at hq; rw [g59]; exact hq)
                      | (have e := mSg_op ((hm.2.2.2.2.2 45 (by omega)).mp g68) (by rfl)
                         rw [e] at hq; rw [g68]; exact hq)
                      | (have e := mSg_op ((hm.2.2.2.2.2 42 (by omega)).mp g77) (by rfl)
                         rw [e] at hq; rw [g77]; exact hq)
                      | (have e := mSg_op ((hm.2.2.2.2.2 47 (by omega)).mp g86) (by rfl)
                         rw [e] at hq; rw [g86]; exact hq)
                      | (have e := mSg_op ((hm.2.2.2.2.2 37 (by omega)).mp g95) (by rfl)
                         rw [e] at hq; rw [g95]; exact hq)
                      | (have e : mSg B n p = 0 := by
                           unfold mSg
                           rw [if_neg z15, if_neg z16, if_neg]
                           rintro ⟨a, b⟩
                           have k : ∀ c, 4 ≤ c → mKd B n p ≠ c → tC B n p ≠ c := fun c hc h z => h ((hm.2.2.2.2.2 c hc).mpr (by unfold tkGb; rw [a, z]; simp))
                           rcases isOp_in b with z | z | z | z | z | z | z | z
                           · exact k 60 (by omega) g32 z
                           · exact k 62 (by omega) g41 z
                           · exact k 61 (by omega) g50 z
                           · exact k 43 (by omega) g59 z
                           · exact k 45 (by omega) g68 z
                           · exact k 42 (by omega) g77 z
                           · exact k 47 (by omega) g86 z
                           · exact k 37 (by omega) g95 z
                         rw [e] at hq; exact hq)
def unR (B : Nat → Nat) (n w u0 f0 : Nat) (res : pPS) (I : pHI) (J : pHJ) : Prop := (∃ e, res = .inl e ∧ mFa I e) ∨ (∃ f st p o u, f ≤ f0 ∧ ruM B n f (false, st, liS o u (sOf B n p)) = some res ∧ mR0 B n p I J ∧ mQ w u0 st o u I ∧ iN false st o u)
set_option maxHeartbeats 400000 in
set_option maxRecDepth 100000 in
theorem L_X12_unitL {l : Launch} {X : pX} {t g : Nat} {I : pHI} {J : pHJ} {Q : pQ} {n w u0 f0 : Nat} {B : Nat → Nat} {res : pPS} {f : Nat} {v2 : Option Value} {st : List Nat} {p : Nat} {o : pP} {u : Nat} {I1 : pHI} {J1 : pHJ} (hT : tpM I n B) (hw : w ≤ 1) (hu0 : u0 ≤ 30) (hq : ∀ I1 J1, sMF w I I1 → jM J J1 → unR B n w u0 f0 res I1 J1 → Q none I1 J1 (pR t g)) (hf : f ≤ f0) (hru : ruM B n f (true, st, liS o u (sOf B n p)) = some res) (hx : sMF w I I1) (jx : jM J J1) (hr : mR0 B n p I1 J1) (hm : mQ w u0 st o u I1) (hi : iN true st o u) (hnn : ¬ (tkWb B n p 11 = true ∧ mNt st = true)) (hnb : ¬ tkGb B n p 40 = true) : pE l X mX12_unit 4 pK 96 [some (.ref 67), some (.int (nI 1)), v2] [] pK I1 J1 (pR t g) Q := by
  have hr0 := hr
  obtain ⟨q1, q2, q3, q4, q5, q6, q7⟩ := id hm
  obtain ⟨b1, b2, b3, b4⟩ := iN_b hi
  have hT1 := hT.f hx
  have hp := hr.2.2.1
  have hk := hr.2.2.2
  have hd := mKd_b (B := B) hp
  refine pE_iconst (v := nI 0) dX12_unit_96 rfl ?_
  refine pE_istore_n (lc' := [_, some (.int _), _]) dX12_unit_97 rfl (Nat.le_of_ble_eq_true rfl) rfl rfl ?_
  refine pE_goto (tgt := 2) dX12_unit_98 (by decide) ?_
  refine pE_iload_n dX12_unit_2 rfl rfl ?_
  refine pE_if_eq (tgt := 101) dX12_unit_3 (by decide) (fun h3 => ?_) (fun h3 => ?_)
  · have g3 := nq_eq0 (by omega) h3
    refine pE_aload_n dX12_unit_101 rfl rfl ?_
    refine pE_getI dX12_unit_102 flX12_182 rfl (Or.inl rfl) (by first | assumption | rfl) ?_
    rw [hr.1]
    refine pE_if_le (tgt := 109) dX12_unit_105 (by decide) (fun h105 => ?_) (fun h105 => ?_)
    · have g105 := nq_le0 (by omega) h105
      refine pE_aload_n dX12_unit_109 rfl rfl ?_
      refine pE_callV (d' := 0) (as := []) dX12_unit_110 lkX12_285 (cwX12_asked _ _) ivX12_asked ⟨_, rfl, rfl⟩ (by first | assumption | rfl) rfl rfl (Nat.le_of_ble_eq_true rfl) (by decide) pKK ?_
      refine M_X12_asked hr ?_
      by_cases hm0 : mesN B n p = 0
      · rw [show mvJ (mesN B n p) = -1 from if_pos hm0]
        refine pE_istore_n (lc' := [_, _, some (.int _)]) dX12_unit_113 rfl (Nat.le_of_ble_eq_true rfl) rfl rfl ?_
        refine pE_aload_n dX12_unit_114 rfl rfl ?_
        refine pE_getI dX12_unit_115 flX12_169 rfl (Or.inl rfl) (by first | assumption | rfl) ?_
        rw [hk.1]
        refine pE_iconst (v := nI 2) dX12_unit_118 rfl ?_
        refine pE_icmp_eq (tgt := 126) dX12_unit_119 (by decide) (fun h119 => ?_) (fun h119 => ?_)
        · have g119 := nq_eq (by omega) (by omega) h119
          have hk3 := hd.2.2.2.1.mp g119
          have hlf : lfN B n p = some (0, tV B n p) := by unfold lfN; rw [if_pos hk3]
          refine pE_aload_n dX12_unit_126 rfl rfl ?_
          refine pE_callV (d' := 0) (as := []) dX12_unit_127 lkX12_279 (cwX12_isFull _ _) ivX12_isFull ⟨_, rfl, rfl⟩ (by first | assumption | rfl) rfl rfl (Nat.le_of_ble_eq_true rfl) (by decide) pKK ?_
          refine M_X12_isFull q2 q3 hu0 b4 (fun zf => ?_) (fun zf => ?_)
          · refine pE_if_eq_f (tgt := 138) dX12_unit_130 (by decide) nI_1n0 ?_
            refine pE_aload_n dX12_unit_133 rfl rfl ?_
            refine pE_iconst (v := nI 2) dX12_unit_134 rfl ?_
            refine pE_callV (d' := 0) (as := [_]) dX12_unit_135 lkX12_227 (cwX12_wrong _ _) ivX12_wrong ⟨_, rfl, rfl⟩ (by first | assumption | rfl) rfl rfl (Nat.le_of_ble_eq_true rfl) (by decide) pKK ?_
            refine M_X12_wrong hT1 hr (by omega) (fun I2 x1 x2 => ?_)
            have x3 := x2.1
            have x4 := x2.2.1
            simp only at x3 x4
            refine pE_aload_n dX12_unit_138 rfl rfl ?_
            refine pE_getI dX12_unit_139 flX12_182 rfl (Or.inl rfl) (by first | assumption | rfl) ?_
            rw [x3]
            refine pE_if_le (tgt := 146) dX12_unit_142 (by decide) (fun h142 => ?_) (fun h142 => ?_)
            · have g142 := nq_le0 (by omega) h142
              omega
            · have g142 := nq_nle0 (by omega) h142
              refine pE_vret dX12_unit_145 rfl rfl ?_
              refine hq _ _ (hx.tr x1.f) jx (Or.inl ⟨_, ruU_no hru hnn hnb (by first | exact Or.inl hlf | exact Or.inr zf), x2⟩)
          · refine pE_if_eq_t (tgt := 138) dX12_unit_130 (by decide) nI_0 ?_
            refine pE_aload_n dX12_unit_138 rfl rfl ?_
            refine pE_getI dX12_unit_139 flX12_182 rfl (Or.inl rfl) (by first | assumption | rfl) ?_
            rw [hr.1]
            refine pE_if_le (tgt := 146) dX12_unit_142 (by decide) (fun h142 => ?_) (fun h142 => ?_)
            · have g142 := nq_le0 (by omega) h142
              refine pE_aload_n dX12_unit_146 rfl rfl ?_
              refine pE_callV (d' := 0) (as := []) dX12_unit_147 lkX12_282 (cwX12_countUnit _ _) ivX12_countUnit ⟨_, rfl, rfl⟩ (by first | assumption | rfl) rfl rfl (Nat.le_of_ble_eq_true rfl) (by decide) pKK ?_
              refine M_X12_countUnit (u0 := u0 + u) (u := u) q2 q3 ?_
              refine pE_aload_n dX12_unit_150 rfl rfl ?_
              refine pE_iload_n dX12_unit_151 rfl rfl ?_
              refine pE_if_ge (tgt := 159) dX12_unit_152 (by decide) (fun h152 => ?_) (fun h152 => ?_)
              · exact absurd h152 (by decide)
              · refine pE_iconst (v := nI 0) dX12_unit_155 rfl ?_
                refine pE_goto (tgt := 160) dX12_unit_156 (by decide) ?_
                refine pE_iload_n dX12_unit_160 rfl rfl ?_
                refine pE_if_ge (tgt := 171) dX12_unit_161 (by decide) (fun h161 => ?_) (fun h161 => ?_)
                · exact absurd h161 (by decide)
                · refine pE_aload_n dX12_unit_164 rfl rfl ?_
                  refine pE_getI dX12_unit_165 flX12_166 rfl (Or.inl rfl) (by first | assumption | rfl) ?_
                  rw [pu_at, if_neg (by omega), pu_at, if_neg (by omega), hk.2.2.2.1 hk3]
                  refine pE_goto (tgt := 172) dX12_unit_168 (by decide) ?_
                  refine pE_callV (d' := 0) (as := [_, _]) dX12_unit_172 lkX12_260 (cwX12_add _ _) ivX12_add ⟨_, rfl, rfl⟩ (by first | assumption | rfl) rfl rfl (Nat.le_of_ble_eq_true rfl) (by decide) pKK ?_
                  refine M_X12_add (w := w) (m := o.length) hw (by rw [pu_at, if_neg (by omega), pu_at, if_neg (by omega)]; exact q1) (by rw [pu_ne _ _ _ (by decide), pu_ne _ _ _ (by decide)]; exact q6.1) (by omega) ?_
                  have hmw := hm.unit.step (k := 0) (m := tV B n p) (a := nI 0) (b := nI (tV B n p)) (Or.inl ⟨rfl, rfl, rfl⟩)
                  refine pE_aload_n dX12_unit_175 rfl rfl ?_
                  refine pE_callV (d' := 2) (as := []) dX12_unit_176 lkX12_230 (cwX12_token _ _) ivX12_token ⟨_, rfl, rfl⟩ (by first | assumption | rfl) rfl rfl (Nat.le_of_ble_eq_true rfl) (by decide) pKK ?_
                  refine M_X12_tokenN (hT1.f (((((sMF.rf.u67 (by omega)).u67 (by omega)).u70 (Or.inl rfl) (by omega)).u70 (Or.inr rfl) (by omega)).u72 rfl)) (hr.f (fun k hk => by rw [pu_ne _ _ _ (by decide), pu_ne _ _ _ (by decide), pu_ne _ _ _ (by decide), pu_at, if_neg (by omega), pu_at, if_neg (by omega)])) (lf_2 hlf) (fun I2 J2 x1 y1 x2 => ?_)
                  refine pE_vret dX12_unit_179 rfl rfl ?_
                  obtain ⟨f', rfl, hf'⟩ := ruU_lf hru hnn hnb hlf (by omega)
                  exact hq _ _ ((hx.tr (((((sMF.rf.u67 (by omega)).u67 (by omega)).u70 (Or.inl rfl) (by omega)).u70 (Or.inr rfl) (by omega)).u72 rfl)).tr x1.f) (jx.tr y1) (Or.inr ⟨f', st, _, _, _, by omega, hf', x2, hmw.fr x1, iN_lf hi (by omega)⟩)
            · have g142 := nq_nle0 (by omega) h142
              omega
        · have g119 := nq_ne (by omega) (by omega) h119
          have hk3 : tK B n p ≠ 3 := fun z => g119 (hd.2.2.2.1.mpr z)
          have hlf : lfN B n p = none := by unfold lfN; rw [if_neg hk3, if_pos hm0]
          refine pE_iload_n dX12_unit_122 rfl rfl ?_
          refine pE_if_lt (tgt := 133) dX12_unit_123 (by decide) (fun h123 => ?_) (fun h123 => ?_)
          · refine pE_aload_n dX12_unit_133 rfl rfl ?_
            refine pE_iconst (v := nI 2) dX12_unit_134 rfl ?_
            refine pE_callV (d' := 0) (as := [_]) dX12_unit_135 lkX12_227 (cwX12_wrong _ _) ivX12_wrong ⟨_, rfl, rfl⟩ (by first | assumption | rfl) rfl rfl (Nat.le_of_ble_eq_true rfl) (by decide) pKK ?_
            refine M_X12_wrong hT1 hr (by omega) (fun I2 x1 x2 => ?_)
            have x3 := x2.1
            have x4 := x2.2.1
            simp only at x3 x4
            refine pE_aload_n dX12_unit_138 rfl rfl ?_
            refine pE_getI dX12_unit_139 flX12_182 rfl (Or.inl rfl) (by first | assumption | rfl) ?_
            rw [x3]
            refine pE_if_le (tgt := 146) dX12_unit_142 (by decide) (fun h142 => ?_) (fun h142 => ?_)
            · have g142 := nq_le0 (by omega) h142
              omega
            · have g142 := nq_nle0 (by omega) h142
              refine pE_vret dX12_unit_145 rfl rfl ?_
              refine hq _ _ (hx.tr x1.f) jx (Or.inl ⟨_, ruU_no hru hnn hnb (by first | exact Or.inl hlf | exact Or.inr zf), x2⟩)
          · exact absurd (show (-1 : Int32) < 0 by decide) h123
      · rw [show mvJ (mesN B n p) = nI (mesN B n p - 1) from if_neg hm0]
        have hml := mes_le B n p
        have hk3 : tK B n p ≠ 3 := fun z => hm0 (by unfold mesN; have hw0 : ∀ i, ¬ tkWb B n p i = true := fun i y => by have := tkWb_k y; omega
                                                    simp only [hw0, if_false, Bool.false_eq_true])
        have hlf : lfN B n p = some (mesN B n p, 0) := by unfold lfN; rw [if_neg hk3, if_neg hm0]
        refine pE_istore_n (lc' := [_, _, some (.int _)]) dX12_unit_113 rfl (Nat.le_of_ble_eq_true rfl) rfl rfl ?_
        refine pE_aload_n dX12_unit_114 rfl rfl ?_
        refine pE_getI dX12_unit_115 flX12_169 rfl (Or.inl rfl) (by first | assumption | rfl) ?_
        rw [hk.1]
        refine pE_iconst (v := nI 2) dX12_unit_118 rfl ?_
        refine pE_icmp_eq (tgt := 126) dX12_unit_119 (by decide) (fun h119 => ?_) (fun h119 => ?_)
        · have g119 := nq_eq (by omega) (by omega) h119
          exact absurd (hd.2.2.2.1.mp g119) hk3
        · have g119 := nq_ne (by omega) (by omega) h119
          refine pE_iload_n dX12_unit_122 rfl rfl ?_
          refine pE_if_lt (tgt := 133) dX12_unit_123 (by decide) (fun h123 => ?_) (fun h123 => ?_)
          · exact absurd h123 (nI_pos (by omega))
          · refine pE_aload_n dX12_unit_126 rfl rfl ?_
            refine pE_callV (d' := 0) (as := []) dX12_unit_127 lkX12_279 (cwX12_isFull _ _) ivX12_isFull ⟨_, rfl, rfl⟩ (by first | assumption | rfl) rfl rfl (Nat.le_of_ble_eq_true rfl) (by decide) pKK ?_
            refine M_X12_isFull q2 q3 hu0 b4 (fun zf => ?_) (fun zf => ?_)
            · refine pE_if_eq_f (tgt := 138) dX12_unit_130 (by decide) nI_1n0 ?_
              refine pE_aload_n dX12_unit_133 rfl rfl ?_
              refine pE_iconst (v := nI 2) dX12_unit_134 rfl ?_
              refine pE_callV (d' := 0) (as := [_]) dX12_unit_135 lkX12_227 (cwX12_wrong _ _) ivX12_wrong ⟨_, rfl, rfl⟩ (by first | assumption | rfl) rfl rfl (Nat.le_of_ble_eq_true rfl) (by decide) pKK ?_
              refine M_X12_wrong hT1 hr (by omega) (fun I2 x1 x2 => ?_)
              have x3 := x2.1
              have x4 := x2.2.1
              simp only at x3 x4
              refine pE_aload_n dX12_unit_138 rfl rfl ?_
              refine pE_getI dX12_unit_139 flX12_182 rfl (Or.inl rfl) (by first | assumption | rfl) ?_
              rw [x3]
              refine pE_if_le (tgt := 146) dX12_unit_142 (by decide) (fun h142 => ?_) (fun h142 => ?_)
              · have g142 := nq_le0 (by omega) h142
                omega
              · have g142 := nq_nle0 (by omega) h142
                refine pE_vret dX12_unit_145 rfl rfl ?_
                refine hq _ _ (hx.tr x1.f) jx (Or.inl ⟨_, ruU_no hru hnn hnb (by first | exact Or.inl hlf | exact Or.inr zf), x2⟩)
            · refine pE_if_eq_t (tgt := 138) dX12_unit_130 (by decide) nI_0 ?_
              refine pE_aload_n dX12_unit_138 rfl rfl ?_
              refine pE_getI dX12_unit_139 flX12_182 rfl (Or.inl rfl) (by first | assumption | rfl) ?_
              rw [hr.1]
              refine pE_if_le (tgt := 146) dX12_unit_142 (by decide) (fun h142 => ?_) (fun h142 => ?_)
              · have g142 := nq_le0 (by omega) h142
                refine pE_aload_n dX12_unit_146 rfl rfl ?_
                refine pE_callV (d' := 0) (as := []) dX12_unit_147 lkX12_282 (cwX12_countUnit _ _) ivX12_countUnit ⟨_, rfl, rfl⟩ (by first | assumption | rfl) rfl rfl (Nat.le_of_ble_eq_true rfl) (by decide) pKK ?_
                refine M_X12_countUnit (u0 := u0 + u) (u := u) q2 q3 ?_
                refine pE_aload_n dX12_unit_150 rfl rfl ?_
                refine pE_iload_n dX12_unit_151 rfl rfl ?_
                refine pE_if_ge (tgt := 159) dX12_unit_152 (by decide) (fun h152 => ?_) (fun h152 => ?_)
                · refine pE_iconst (v := nI 1) dX12_unit_159 rfl ?_
                  refine pE_iload_n dX12_unit_160 rfl rfl ?_
                  refine pE_if_ge (tgt := 171) dX12_unit_161 (by decide) (fun h161 => ?_) (fun h161 => ?_)
                  · refine pE_iload_n dX12_unit_171 rfl rfl ?_
                    refine pE_callV (d' := 0) (as := [_, _]) dX12_unit_172 lkX12_260 (cwX12_add _ _) ivX12_add ⟨_, rfl, rfl⟩ (by first | assumption | rfl) rfl rfl (Nat.le_of_ble_eq_true rfl) (by decide) pKK ?_
                    refine M_X12_add (w := w) (m := o.length) hw (by rw [pu_at, if_neg (by omega), pu_at, if_neg (by omega)]; exact q1) (by rw [pu_ne _ _ _ (by decide), pu_ne _ _ _ (by decide)]; exact q6.1) (by omega) ?_
                    have hmw := hm.unit.step (k := mesN B n p) (m := 0) (a := nI 1) (b := nI (mesN B n p - 1)) (Or.inr (Or.inl ⟨⟨by omega, hml⟩, rfl, rfl⟩))
                    refine pE_aload_n dX12_unit_175 rfl rfl ?_
                    refine pE_callV (d' := 2) (as := []) dX12_unit_176 lkX12_230 (cwX12_token _ _) ivX12_token ⟨_, rfl, rfl⟩ (by first | assumption | rfl) rfl rfl (Nat.le_of_ble_eq_true rfl) (by decide) pKK ?_
                    refine M_X12_tokenN (hT1.f (((((sMF.rf.u67 (by omega)).u67 (by omega)).u70 (Or.inl rfl) (by omega)).u70 (Or.inr rfl) (by omega)).u72 rfl)) (hr.f (fun k hk => by rw [pu_ne _ _ _ (by decide), pu_ne _ _ _ (by decide), pu_ne _ _ _ (by decide), pu_at, if_neg (by omega), pu_at, if_neg (by omega)])) (lf_2 hlf) (fun I2 J2 x1 y1 x2 => ?_)
                    refine pE_vret dX12_unit_179 rfl rfl ?_
                    obtain ⟨f', rfl, hf'⟩ := ruU_lf hru hnn hnb hlf (by omega)
                    exact hq _ _ ((hx.tr (((((sMF.rf.u67 (by omega)).u67 (by omega)).u70 (Or.inl rfl) (by omega)).u70 (Or.inr rfl) (by omega)).u72 rfl)).tr x1.f) (jx.tr y1) (Or.inr ⟨f', st, _, _, _, by omega, hf', x2, hmw.fr x1, iN_lf hi (by omega)⟩)
                  · exact absurd h161 (not_not_intro (nI_pos' (by omega)))
                · exact absurd h152 (not_not_intro (nI_pos' (by omega)))
              · have g142 := nq_nle0 (by omega) h142
                omega
    · have g105 := nq_nle0 (by omega) h105
      omega
  · have g3 := nq_ne0 (by omega) h3
    omega
set_option maxHeartbeats 2000000 in
set_option maxRecDepth 100000 in
theorem L_X12_unit {l : Launch} {X : pX} {t g : Nat} {I : pHI} {J : pHJ} {Q : pQ} {n w u0 f0 : Nat} {B : Nat → Nat} {res : pPS} (hT : tpM I n B) (hw : w ≤ 1) (hu0 : u0 ≤ 30) (hq : ∀ I1 J1, sMF w I I1 → jM J J1 → unR B n w u0 f0 res I1 J1 → Q none I1 J1 (pR t g)) : ∀ (fu : Nat) (f : Nat) (v2 : Option Value) (st : List Nat) (p : Nat) (o : pP) (u : Nat) (I1 : pHI) (J1 : pHJ), f < fu → (f ≤ f0) → (ruM B n f (true, st, liS o u (sOf B n p)) = some res) → (sMF w I I1) → (jM J J1) → (mR0 B n p I1 J1) → (mQ w u0 st o u I1) → (iN true st o u) → pE l X mX12_unit 4 pK 2 [some (.ref 67), some (.int (nI 1)), v2] [] pK I1 J1 (pR t g) Q := by
  intro fu
  induction fu with
  | zero => intro f v2 st p o u I1 J1 hn; exact absurd hn (Nat.not_lt_zero _)
  | succ fu ih =>
    intro f v2 st p o u I1 J1 hn hf hru hx jx hr hm hi
    have hr0 := hr
    obtain ⟨q1, q2, q3, q4, q5, q6, q7⟩ := id hm
    obtain ⟨b1, b2, b3, b4⟩ := iN_b hi
    have hT1 := hT.f hx
    have hp := hr.2.2.1
    have hk := hr.2.2.2
    have hd := mKd_b (B := B) hp
    refine pE_iload_n dX12_unit_2 rfl rfl ?_
    refine pE_if_eq (tgt := 101) dX12_unit_3 (by decide) (fun h3 => ?_) (fun h3 => ?_)
    · have g3 := nq_eq0 (by omega) h3
      exact absurd g3 (by decide)
    · have g3 := nq_ne0 (by omega) h3
      refine pE_aload_n dX12_unit_6 rfl rfl ?_
      refine pE_getI dX12_unit_7 flX12_182 rfl (Or.inl rfl) (by first | assumption | rfl) ?_
      rw [hr.1]
      refine pE_if_ne (tgt := 101) dX12_unit_10 (by decide) (fun h10 => ?_) (fun h10 => ?_)
      · have g10 := nq_ne0 (by omega) h10
        omega
      · have g10 := nq_eq0 (by omega) h10
        refine pE_aload_n dX12_unit_13 rfl rfl ?_
        refine pE_ldc2 dX12_unit_14 kcX12_217 ?_
        rw [show (7237492 : Int64) = mwJ (kwL 11) from mwk.2.2.2.2.2.2.2.2.2.1.symm]
        refine pE_callV (d' := 0) (as := [_]) dX12_unit_17 lkX12_223 (cwX12_isWord _ _) ivX12_isWord ⟨_, rfl, rfl⟩ (by first | assumption | rfl) rfl rfl (Nat.le_of_ble_eq_true rfl) (by decide) pKK ?_
        refine M_X12_isWord hr (show 11 ∈ ownI by decide) (fun z11 => ?_) (fun z11 => ?_)
        · refine pE_if_eq_f (tgt := 53) dX12_unit_20 (by decide) nI_1n0 ?_
          refine pE_aload_n dX12_unit_23 rfl rfl ?_
          refine pE_callV (d' := 1) (as := []) dX12_unit_24 lkX12_273 (cwX12_mayNot _ _) ivX12_mayNot ⟨_, rfl, rfl⟩ (by first | assumption | rfl) rfl rfl (Nat.le_of_ble_eq_true rfl) (by decide) pKK ?_
          refine M_X12_mayNot q5 q7 (by omega) (fun zm => ?_) (fun zm => ?_)
          · refine pE_if_eq_f (tgt := 53) dX12_unit_27 (by decide) nI_1n0 ?_
            refine pE_aload_n dX12_unit_30 rfl rfl ?_
            refine pE_getI dX12_unit_31 flX12_264 rfl (Or.inl rfl) (by first | assumption | rfl) ?_
            rw [q4]
            refine pE_bipush (v := nI 6) dX12_unit_34 rfl ?_
            refine pE_icmp_le (tgt := 44) dX12_unit_36 (by decide) (fun h36 => ?_) (fun h36 => ?_)
            · have g36 := nq_le (by omega) (by omega) h36
              refine pE_aload_n dX12_unit_44 rfl rfl ?_
              refine pE_bipush (v := nI 21) dX12_unit_45 rfl ?_
              refine pE_callV (d' := 3) (as := [_]) dX12_unit_47 lkX12_276 (cwX12_openUp _ _) ivX12_openUp ⟨_, rfl, rfl⟩ (by first | assumption | rfl) rfl rfl (Nat.le_of_ble_eq_true rfl) (by decide) pKK ?_
              refine M_X12_openUpO hT1 hr (by have := tkWb_k z11; omega) q5.1 (by omega) q4 (fun I2 J2 x1 y1 x2 => ?_)
              refine pE_goto (tgt := 2) dX12_unit_50 (by decide) ?_
              obtain ⟨f', rfl, hf'⟩ := ruU_nt hru z11 zm (by omega)
              refine ih _ _ _ _ _ _ _ _ (by omega) (by omega) hf' (hx.tr ((((sMF.rf.u76).u67 (by omega)).u67 (by omega)).tr x1.f)) (jx.tr y1) x2 ((hm.opn (Or.inr rfl)).fr x1) (iN_nt hi (by omega))
            · have g36 := nq_nle (by omega) (by omega) h36
              refine pE_aload_n dX12_unit_39 rfl rfl ?_
              refine pE_iconst (v := nI 2) dX12_unit_40 rfl ?_
              refine pE_callV (d' := 0) (as := [_]) dX12_unit_41 lkX12_227 (cwX12_wrong _ _) ivX12_wrong ⟨_, rfl, rfl⟩ (by first | assumption | rfl) rfl rfl (Nat.le_of_ble_eq_true rfl) (by decide) pKK ?_
              refine M_X12_wrong hT1 hr (by omega) (fun I2 x1 x2 => ?_)
              have x3 := x2.1
              have x4 := x2.2.1
              have qq := hm.fr x1
              simp only at x3 x4
              refine pE_aload_n dX12_unit_44 rfl rfl ?_
              refine pE_bipush (v := nI 21) dX12_unit_45 rfl ?_
              refine pE_callV (d' := 3) (as := [_]) dX12_unit_47 lkX12_276 (cwX12_openUp _ _) ivX12_openUp ⟨_, rfl, rfl⟩ (by first | assumption | rfl) rfl rfl (Nat.le_of_ble_eq_true rfl) (by decide) pKK ?_
              refine M_X12_openUpE x2 qq.2.2.2.2.1.1 (by omega) qq.2.2.2.1 ?_
              refine pE_goto (tgt := 2) dX12_unit_50 (by decide) ?_
              refine pE_iload_n dX12_unit_2 rfl rfl ?_
              refine pE_if_eq (tgt := 101) dX12_unit_3 (by decide) (fun h3 => ?_) (fun h3 => ?_)
              · have g3 := nq_eq0 (by omega) h3
                exact absurd g3 (by decide)
              · have g3 := nq_ne0 (by omega) h3
                refine pE_aload_n dX12_unit_6 rfl rfl ?_
                refine pE_getI dX12_unit_7 flX12_182 rfl (Or.inl rfl) (by first | assumption | rfl) ?_
                rw [pu_at, if_neg (by omega), pu_at, if_neg (by omega), pu_ne _ _ _ (show (67 : Nat) ≠ 76 by decide), x3]
                refine pE_if_ne (tgt := 101) dX12_unit_10 (by decide) (fun h10 => ?_) (fun h10 => ?_)
                · have g10 := nq_ne0 (by omega) h10
                  refine pE_aload_n dX12_unit_101 rfl rfl ?_
                  refine pE_getI dX12_unit_102 flX12_182 rfl (Or.inl rfl) (by first | assumption | rfl) ?_
                  rw [pu_at, if_neg (by omega), pu_at, if_neg (by omega), pu_ne _ _ _ (show (67 : Nat) ≠ 76 by decide), x3]
                  refine pE_if_le (tgt := 109) dX12_unit_105 (by decide) (fun h105 => ?_) (fun h105 => ?_)
                  · have g105 := nq_le0 (by omega) h105
                    omega
                  · have g105 := nq_nle0 (by omega) h105
                    refine pE_vret dX12_unit_108 rfl rfl ?_
                    refine hq _ _ ((hx.tr x1.f).tr (((sMF.rf.u76).u67 (by omega)).u67 (by omega))) jx (Or.inl ⟨_, ?_, x2.fr ?_ ?_⟩)
                    · rw [ruU_nt7 hru z11 zm (by omega), if_neg (by have := tkWb_k z11; omega)]
                    · rw [pu_at, if_neg (by omega), pu_at, if_neg (by omega), pu_ne _ _ _ (by decide)]
                    · rw [pu_at, if_neg (by omega), pu_at, if_neg (by omega), pu_ne _ _ _ (by decide)]
                · have g10 := nq_eq0 (by omega) h10
                  omega
          · refine pE_if_eq_t (tgt := 53) dX12_unit_27 (by decide) nI_0 ?_
            refine pE_aload_n dX12_unit_53 rfl rfl ?_
            refine pE_getI dX12_unit_54 flX12_169 rfl (Or.inl rfl) (by first | assumption | rfl) ?_
            rw [hk.1]
            refine pE_bipush (v := nI 40) dX12_unit_57 rfl ?_
            refine pE_icmp_ne (tgt := 96) dX12_unit_59 (by decide) (fun h59 => ?_) (fun h59 => ?_)
            · have g59 := nq_ne (by omega) (by omega) h59
              have hnb : ¬ tkGb B n p 40 = true := fun z => g59 ((hd.2.2.2.2.2 40 (by omega)).mpr z)
              exact L_X12_unitL hT hw hu0 hq hf hru hx jx hr hm hi (by first | exact fun z => z11 z.1 | exact fun z => zm z.2) hnb
            · have g59 := nq_eq (by omega) (by omega) h59
              have hbr : tkGb B n p 40 = true := (hd.2.2.2.2.2 40 (by omega)).mp g59
              refine pE_aload_n dX12_unit_62 rfl rfl ?_
              refine pE_callV (d' := 0) (as := []) dX12_unit_63 lkX12_279 (cwX12_isFull _ _) ivX12_isFull ⟨_, rfl, rfl⟩ (by first | assumption | rfl) rfl rfl (Nat.le_of_ble_eq_true rfl) (by decide) pKK ?_
              refine M_X12_isFull q2 q3 hu0 b4 (fun zf => ?_) (fun zf => ?_)
              · refine pE_if_ne_t (tgt := 78) dX12_unit_66 (by decide) nI_1n0 ?_
                refine pE_aload_n dX12_unit_78 rfl rfl ?_
                refine pE_iconst (v := nI 2) dX12_unit_79 rfl ?_
                refine pE_callV (d' := 0) (as := [_]) dX12_unit_80 lkX12_227 (cwX12_wrong _ _) ivX12_wrong ⟨_, rfl, rfl⟩ (by first | assumption | rfl) rfl rfl (Nat.le_of_ble_eq_true rfl) (by decide) pKK ?_
                refine M_X12_wrong hT1 hr (by omega) (fun I2 x1 x2 => ?_)
                have x3 := x2.1
                have x4 := x2.2.1
                simp only at x3 x4
                refine pE_aload_n dX12_unit_83 rfl rfl ?_
                refine pE_callV (d' := 0) (as := []) dX12_unit_84 lkX12_282 (cwX12_countUnit _ _) ivX12_countUnit ⟨_, rfl, rfl⟩ (by first | assumption | rfl) rfl rfl (Nat.le_of_ble_eq_true rfl) (by decide) pKK ?_
                refine M_X12_countUnit (u0 := u0 + u) (u := u) (hm.fr x1).2.1 (hm.fr x1).2.2.1 ?_
                refine pE_aload_n dX12_unit_87 rfl rfl ?_
                refine pE_bipush (v := nI 20) dX12_unit_88 rfl ?_
                refine pE_callV (d' := 3) (as := [_]) dX12_unit_90 lkX12_276 (cwX12_openUp _ _) ivX12_openUp ⟨_, rfl, rfl⟩ (by first | assumption | rfl) rfl rfl (Nat.le_of_ble_eq_true rfl) (by decide) pKK ?_
                refine M_X12_openUpE (e := (if tK B n p = 1 then 1 else 2, tQ B n p)) (x2.fr (by rw [pu_at, if_neg (by omega), pu_at, if_neg (by omega)]) (by rw [pu_at, if_neg (by omega), pu_at, if_neg (by omega)])) (k := st.length) (d := dpL st) (by rw [pu_at, if_neg (by omega), pu_at, if_neg (by omega)]; exact (hm.fr x1).2.2.2.2.1.1) (by omega) (by rw [pu_at, if_neg (by omega), pu_at, if_neg (by omega)]; exact (hm.fr x1).2.2.2.1) ?_
                refine pE_goto (tgt := 2) dX12_unit_93 (by decide) ?_
                refine pE_iload_n dX12_unit_2 rfl rfl ?_
                refine pE_if_eq (tgt := 101) dX12_unit_3 (by decide) (fun h3 => ?_) (fun h3 => ?_)
                · have g3 := nq_eq0 (by omega) h3
                  exact absurd g3 (by decide)
                · have g3 := nq_ne0 (by omega) h3
                  refine pE_aload_n dX12_unit_6 rfl rfl ?_
                  refine pE_getI dX12_unit_7 flX12_182 rfl (Or.inl rfl) (by first | assumption | rfl) ?_
                  rw [pu_at, if_neg (by omega), pu_at, if_neg (by omega), pu_ne _ _ _ (show (67 : Nat) ≠ 76 by decide), pu_at, if_neg (by omega), pu_at, if_neg (by omega), x3]
                  refine pE_if_ne (tgt := 101) dX12_unit_10 (by decide) (fun h10 => ?_) (fun h10 => ?_)
                  · have g10 := nq_ne0 (by omega) h10
                    refine pE_aload_n dX12_unit_101 rfl rfl ?_
                    refine pE_getI dX12_unit_102 flX12_182 rfl (Or.inl rfl) (by first | assumption | rfl) ?_
                    rw [pu_at, if_neg (by omega), pu_at, if_neg (by omega), pu_ne _ _ _ (show (67 : Nat) ≠ 76 by decide), pu_at, if_neg (by omega), pu_at, if_neg (by omega), x3]
                    refine pE_if_le (tgt := 109) dX12_unit_105 (by decide) (fun h105 => ?_) (fun h105 => ?_)
                    · have g105 := nq_le0 (by omega) h105
                      omega
                    · have g105 := nq_nle0 (by omega) h105
                      refine pE_vret dX12_unit_108 rfl rfl ?_
                      refine hq _ _ (((hx.tr x1.f).tr ((sMF.rf.u67 (by omega)).u67 (by omega))).tr (((sMF.rf.u76).u67 (by omega)).u67 (by omega))) jx (Or.inl ⟨_, ?_, x2.fr ?_ ?_⟩)
                      · rw [ruU_br7 hru hbr (by omega), if_neg (by have := (tkGb_k hbr).1; omega)]
                      · rw [pu_at, if_neg (by omega), pu_at, if_neg (by omega), pu_ne _ _ _ (by decide), pu_at, if_neg (by omega), pu_at, if_neg (by omega)]
                      · rw [pu_at, if_neg (by omega), pu_at, if_neg (by omega), pu_ne _ _ _ (by decide), pu_at, if_neg (by omega), pu_at, if_neg (by omega)]
                  · have g10 := nq_eq0 (by omega) h10
                    omega
              · refine pE_if_ne_f (tgt := 78) dX12_unit_66 (by decide) nI_0 ?_
                refine pE_aload_n dX12_unit_69 rfl rfl ?_
                refine pE_getI dX12_unit_70 flX12_264 rfl (Or.inl rfl) (by first | assumption | rfl) ?_
                rw [q4]
                refine pE_bipush (v := nI 6) dX12_unit_73 rfl ?_
                refine pE_icmp_le (tgt := 83) dX12_unit_75 (by decide) (fun h75 => ?_) (fun h75 => ?_)
                · have g75 := nq_le (by omega) (by omega) h75
                  have hm2 := hm.unit
                  have hr2 : mR0 B n p (pu (pu I1 67 22 (nI (u0 + u + 1))) 67 24 (nI (u + 1))) J1 := hr.f (fun k hk => by rw [pu_at, if_neg (by omega), pu_at, if_neg (by omega)])
                  refine pE_aload_n dX12_unit_83 rfl rfl ?_
                  refine pE_callV (d' := 0) (as := []) dX12_unit_84 lkX12_282 (cwX12_countUnit _ _) ivX12_countUnit ⟨_, rfl, rfl⟩ (by first | assumption | rfl) rfl rfl (Nat.le_of_ble_eq_true rfl) (by decide) pKK ?_
                  refine M_X12_countUnit (u0 := u0 + u) (u := u) q2 q3 ?_
                  refine pE_aload_n dX12_unit_87 rfl rfl ?_
                  refine pE_bipush (v := nI 20) dX12_unit_88 rfl ?_
                  refine pE_callV (d' := 3) (as := [_]) dX12_unit_90 lkX12_276 (cwX12_openUp _ _) ivX12_openUp ⟨_, rfl, rfl⟩ (by first | assumption | rfl) rfl rfl (Nat.le_of_ble_eq_true rfl) (by decide) pKK ?_
                  refine M_X12_openUpO (hT1.f (w := w) ((sMF.rf.u67 (by omega)).u67 (by omega))) hr2 (by have := (tkGb_k hbr).1; omega) hm2.2.2.2.2.1.1 (by omega) hm2.2.2.2.1 (fun I2 J2 x1 y1 x2 => ?_)
                  refine pE_goto (tgt := 2) dX12_unit_93 (by decide) ?_
                  obtain ⟨f', rfl, hf'⟩ := ruU_br hru hbr (by omega) (by omega)
                  refine ih _ _ _ _ _ _ _ _ (by omega) (by omega) hf' (hx.tr ((((sMF.rf.u67 (by omega)).u67 (by omega)).tr (((sMF.rf.u76).u67 (by omega)).u67 (by omega))).tr x1.f)) (jx.tr y1) x2 ((hm2.opn (Or.inl rfl)).fr x1) (iN_br hi (by omega) (by omega))
                · have g75 := nq_nle (by omega) (by omega) h75
                  refine pE_aload_n dX12_unit_78 rfl rfl ?_
                  refine pE_iconst (v := nI 2) dX12_unit_79 rfl ?_
                  refine pE_callV (d' := 0) (as := [_]) dX12_unit_80 lkX12_227 (cwX12_wrong _ _) ivX12_wrong ⟨_, rfl, rfl⟩ (by first | assumption | rfl) rfl rfl (Nat.le_of_ble_eq_true rfl) (by decide) pKK ?_
                  refine M_X12_wrong hT1 hr (by omega) (fun I2 x1 x2 => ?_)
                  have x3 := x2.1
                  have x4 := x2.2.1
                  simp only at x3 x4
                  refine pE_aload_n dX12_unit_83 rfl rfl ?_
                  refine pE_callV (d' := 0) (as := []) dX12_unit_84 lkX12_282 (cwX12_countUnit _ _) ivX12_countUnit ⟨_, rfl, rfl⟩ (by first | assumption | rfl) rfl rfl (Nat.le_of_ble_eq_true rfl) (by decide) pKK ?_
                  refine M_X12_countUnit (u0 := u0 + u) (u := u) (hm.fr x1).2.1 (hm.fr x1).2.2.1 ?_
                  refine pE_aload_n dX12_unit_87 rfl rfl ?_
                  refine pE_bipush (v := nI 20) dX12_unit_88 rfl ?_
                  refine pE_callV (d' := 3) (as := [_]) dX12_unit_90 lkX12_276 (cwX12_openUp _ _) ivX12_openUp ⟨_, rfl, rfl⟩ (by first | assumption | rfl) rfl rfl (Nat.le_of_ble_eq_true rfl) (by decide) pKK ?_
                  refine M_X12_openUpE (e := (if tK B n p = 1 then 1 else 2, tQ B n p)) (x2.fr (by rw [pu_at, if_neg (by omega), pu_at, if_neg (by omega)]) (by rw [pu_at, if_neg (by omega), pu_at, if_neg (by omega)])) (k := st.length) (d := dpL st) (by rw [pu_at, if_neg (by omega), pu_at, if_neg (by omega)]; exact (hm.fr x1).2.2.2.2.1.1) (by omega) (by rw [pu_at, if_neg (by omega), pu_at, if_neg (by omega)]; exact (hm.fr x1).2.2.2.1) ?_
                  refine pE_goto (tgt := 2) dX12_unit_93 (by decide) ?_
                  refine pE_iload_n dX12_unit_2 rfl rfl ?_
                  refine pE_if_eq (tgt := 101) dX12_unit_3 (by decide) (fun h3 => ?_) (fun h3 => ?_)
                  · have g3 := nq_eq0 (by omega) h3
                    exact absurd g3 (by decide)
                  · have g3 := nq_ne0 (by omega) h3
                    refine pE_aload_n dX12_unit_6 rfl rfl ?_
                    refine pE_getI dX12_unit_7 flX12_182 rfl (Or.inl rfl) (by first | assumption | rfl) ?_
                    rw [pu_at, if_neg (by omega), pu_at, if_neg (by omega), pu_ne _ _ _ (show (67 : Nat) ≠ 76 by decide), pu_at, if_neg (by omega), pu_at, if_neg (by omega), x3]
                    refine pE_if_ne (tgt := 101) dX12_unit_10 (by decide) (fun h10 => ?_) (fun h10 => ?_)
                    · have g10 := nq_ne0 (by omega) h10
                      refine pE_aload_n dX12_unit_101 rfl rfl ?_
                      refine pE_getI dX12_unit_102 flX12_182 rfl (Or.inl rfl) (by first | assumption | rfl) ?_
                      rw [pu_at, if_neg (by omega), pu_at, if_neg (by omega), pu_ne _ _ _ (show (67 : Nat) ≠ 76 by decide), pu_at, if_neg (by omega), pu_at, if_neg (by omega), x3]
                      refine pE_if_le (tgt := 109) dX12_unit_105 (by decide) (fun h105 => ?_) (fun h105 => ?_)
                      · have g105 := nq_le0 (by omega) h105
                        omega
                      · have g105 := nq_nle0 (by omega) h105
                        refine pE_vret dX12_unit_108 rfl rfl ?_
                        refine hq _ _ (((hx.tr x1.f).tr ((sMF.rf.u67 (by omega)).u67 (by omega))).tr (((sMF.rf.u76).u67 (by omega)).u67 (by omega))) jx (Or.inl ⟨_, ?_, x2.fr ?_ ?_⟩)
                        · rw [ruU_br7 hru hbr (by omega), if_neg (by have := (tkGb_k hbr).1; omega)]
                        · rw [pu_at, if_neg (by omega), pu_at, if_neg (by omega), pu_ne _ _ _ (by decide), pu_at, if_neg (by omega), pu_at, if_neg (by omega)]
                        · rw [pu_at, if_neg (by omega), pu_at, if_neg (by omega), pu_ne _ _ _ (by decide), pu_at, if_neg (by omega), pu_at, if_neg (by omega)]
                    · have g10 := nq_eq0 (by omega) h10
                      omega
        · refine pE_if_eq_t (tgt := 53) dX12_unit_20 (by decide) nI_0 ?_
          refine pE_aload_n dX12_unit_53 rfl rfl ?_
          refine pE_getI dX12_unit_54 flX12_169 rfl (Or.inl rfl) (by first | assumption | rfl) ?_
          rw [hk.1]
          refine pE_bipush (v := nI 40) dX12_unit_57 rfl ?_
          refine pE_icmp_ne (tgt := 96) dX12_unit_59 (by decide) (fun h59 => ?_) (fun h59 => ?_)
          · have g59 := nq_ne (by omega) (by omega) h59
            have hnb : ¬ tkGb B n p 40 = true := fun z => g59 ((hd.2.2.2.2.2 40 (by omega)).mpr z)
            exact L_X12_unitL hT hw hu0 hq hf hru hx jx hr hm hi (by first | exact fun z => z11 z.1 | exact fun z => zm z.2) hnb
          · have g59 := nq_eq (by omega) (by omega) h59
            have hbr : tkGb B n p 40 = true := (hd.2.2.2.2.2 40 (by omega)).mp g59
            refine pE_aload_n dX12_unit_62 rfl rfl ?_
            refine pE_callV (d' := 0) (as := []) dX12_unit_63 lkX12_279 (cwX12_isFull _ _) ivX12_isFull ⟨_, rfl, rfl⟩ (by first | assumption | rfl) rfl rfl (Nat.le_of_ble_eq_true rfl) (by decide) pKK ?_
            refine M_X12_isFull q2 q3 hu0 b4 (fun zf => ?_) (fun zf => ?_)
            · refine pE_if_ne_t (tgt := 78) dX12_unit_66 (by decide) nI_1n0 ?_
              refine pE_aload_n dX12_unit_78 rfl rfl ?_
              refine pE_iconst (v := nI 2) dX12_unit_79 rfl ?_
              refine pE_callV (d' := 0) (as := [_]) dX12_unit_80 lkX12_227 (cwX12_wrong _ _) ivX12_wrong ⟨_, rfl, rfl⟩ (by first | assumption | rfl) rfl rfl (Nat.le_of_ble_eq_true rfl) (by decide) pKK ?_
              refine M_X12_wrong hT1 hr (by omega) (fun I2 x1 x2 => ?_)
              have x3 := x2.1
              have x4 := x2.2.1
              simp only at x3 x4
              refine pE_aload_n dX12_unit_83 rfl rfl ?_
              refine pE_callV (d' := 0) (as := []) dX12_unit_84 lkX12_282 (cwX12_countUnit _ _) ivX12_countUnit ⟨_, rfl, rfl⟩ (by first | assumption | rfl) rfl rfl (Nat.le_of_ble_eq_true rfl) (by decide) pKK ?_
              refine M_X12_countUnit (u0 := u0 + u) (u := u) (hm.fr x1).2.1 (hm.fr x1).2.2.1 ?_
              refine pE_aload_n dX12_unit_87 rfl rfl ?_
              refine pE_bipush (v := nI 20) dX12_unit_88 rfl ?_
              refine pE_callV (d' := 3) (as := [_]) dX12_unit_90 lkX12_276 (cwX12_openUp _ _) ivX12_openUp ⟨_, rfl, rfl⟩ (by first | assumption | rfl) rfl rfl (Nat.le_of_ble_eq_true rfl) (by decide) pKK ?_
              refine M_X12_openUpE (e := (if tK B n p = 1 then 1 else 2, tQ B n p)) (x2.fr (by rw [pu_at, if_neg (by omega), pu_at, if_neg (by omega)]) (by rw [pu_at, if_neg (by omega), pu_at, if_neg (by omega)])) (k := st.length) (d := dpL st) (by rw [pu_at, if_neg (by omega), pu_at, if_neg (by omega)]; exact (hm.fr x1).2.2.2.2.1.1) (by omega) (by rw [pu_at, if_neg (by omega), pu_at, if_neg (by omega)]; exact (hm.fr x1).2.2.2.1) ?_
              refine pE_goto (tgt := 2) dX12_unit_93 (by decide) ?_
              refine pE_iload_n dX12_unit_2 rfl rfl ?_
              refine pE_if_eq (tgt := 101) dX12_unit_3 (by decide) (fun h3 => ?_) (fun h3 => ?_)
              · have g3 := nq_eq0 (by omega) h3
                exact absurd g3 (by decide)
              · have g3 := nq_ne0 (by omega) h3
                refine pE_aload_n dX12_unit_6 rfl rfl ?_
                refine pE_getI dX12_unit_7 flX12_182 rfl (Or.inl rfl) (by first | assumption | rfl) ?_
                rw [pu_at, if_neg (by omega), pu_at, if_neg (by omega), pu_ne _ _ _ (show (67 : Nat) ≠ 76 by decide), pu_at, if_neg (by omega), pu_at, if_neg (by omega), x3]
                refine pE_if_ne (tgt := 101) dX12_unit_10 (by decide) (fun h10 => ?_) (fun h10 => ?_)
                · have g10 := nq_ne0 (by omega) h10
                  refine pE_aload_n dX12_unit_101 rfl rfl ?_
                  refine pE_getI dX12_unit_102 flX12_182 rfl (Or.inl rfl) (by first | assumption | rfl) ?_
                  rw [pu_at, if_neg (by omega), pu_at, if_neg (by omega), pu_ne _ _ _ (show (67 : Nat) ≠ 76 by decide), pu_at, if_neg (by omega), pu_at, if_neg (by omega), x3]
                  refine pE_if_le (tgt := 109) dX12_unit_105 (by decide) (fun h105 => ?_) (fun h105 => ?_)
                  · have g105 := nq_le0 (by omega) h105
                    omega
                  · have g105 := nq_nle0 (by omega) h105
                    refine pE_vret dX12_unit_108 rfl rfl ?_
                    refine hq _ _ (((hx.tr x1.f).tr ((sMF.rf.u67 (by omega)).u67 (by omega))).tr (((sMF.rf.u76).u67 (by omega)).u67 (by omega))) jx (Or.inl ⟨_, ?_, x2.fr ?_ ?_⟩)
                    · rw [ruU_br7 hru hbr (by omega), if_neg (by have := (tkGb_k hbr).1; omega)]
                    · rw [pu_at, if_neg (by omega), pu_at, if_neg (by omega), pu_ne _ _ _ (by decide), pu_at, if_neg (by omega), pu_at, if_neg (by omega)]
                    · rw [pu_at, if_neg (by omega), pu_at, if_neg (by omega), pu_ne _ _ _ (by decide), pu_at, if_neg (by omega), pu_at, if_neg (by omega)]
                · have g10 := nq_eq0 (by omega) h10
                  omega
            · refine pE_if_ne_f (tgt := 78) dX12_unit_66 (by decide) nI_0 ?_
              refine pE_aload_n dX12_unit_69 rfl rfl ?_
              refine pE_getI dX12_unit_70 flX12_264 rfl (Or.inl rfl) (by first | assumption | rfl) ?_
              rw [q4]
              refine pE_bipush (v := nI 6) dX12_unit_73 rfl ?_
              refine pE_icmp_le (tgt := 83) dX12_unit_75 (by decide) (fun h75 => ?_) (fun h75 => ?_)
              · have g75 := nq_le (by omega) (by omega) h75
                have hm2 := hm.unit
                have hr2 : mR0 B n p (pu (pu I1 67 22 (nI (u0 + u + 1))) 67 24 (nI (u + 1))) J1 := hr.f (fun k hk => by rw [pu_at, if_neg (by omega), pu_at, if_neg (by omega)])
                refine pE_aload_n dX12_unit_83 rfl rfl ?_
                refine pE_callV (d' := 0) (as := []) dX12_unit_84 lkX12_282 (cwX12_countUnit _ _) ivX12_countUnit ⟨_, rfl, rfl⟩ (by first | assumption | rfl) rfl rfl (Nat.le_of_ble_eq_true rfl) (by decide) pKK ?_
                refine M_X12_countUnit (u0 := u0 + u) (u := u) q2 q3 ?_
                refine pE_aload_n dX12_unit_87 rfl rfl ?_
                refine pE_bipush (v := nI 20) dX12_unit_88 rfl ?_
                refine pE_callV (d' := 3) (as := [_]) dX12_unit_90 lkX12_276 (cwX12_openUp _ _) ivX12_openUp ⟨_, rfl, rfl⟩ (by first | assumption | rfl) rfl rfl (Nat.le_of_ble_eq_true rfl) (by decide) pKK ?_
                refine M_X12_openUpO (hT1.f (w := w) ((sMF.rf.u67 (by omega)).u67 (by omega))) hr2 (by have := (tkGb_k hbr).1; omega) hm2.2.2.2.2.1.1 (by omega) hm2.2.2.2.1 (fun I2 J2 x1 y1 x2 => ?_)
                refine pE_goto (tgt := 2) dX12_unit_93 (by decide) ?_
                obtain ⟨f', rfl, hf'⟩ := ruU_br hru hbr (by omega) (by omega)
                refine ih _ _ _ _ _ _ _ _ (by omega) (by omega) hf' (hx.tr ((((sMF.rf.u67 (by omega)).u67 (by omega)).tr (((sMF.rf.u76).u67 (by omega)).u67 (by omega))).tr x1.f)) (jx.tr y1) x2 ((hm2.opn (Or.inl rfl)).fr x1) (iN_br hi (by omega) (by omega))
              · have g75 := nq_nle (by omega) (by omega) h75
                refine pE_aload_n dX12_unit_78 rfl rfl ?_
                refine pE_iconst (v := nI 2) dX12_unit_79 rfl ?_
                refine pE_callV (d' := 0) (as := [_]) dX12_unit_80 lkX12_227 (cwX12_wrong _ _) ivX12_wrong ⟨_, rfl, rfl⟩ (by first | assumption | rfl) rfl rfl (Nat.le_of_ble_eq_true rfl) (by decide) pKK ?_
                refine M_X12_wrong hT1 hr (by omega) (fun I2 x1 x2 => ?_)
                have x3 := x2.1
                have x4 := x2.2.1
                simp only at x3 x4
                refine pE_aload_n dX12_unit_83 rfl rfl ?_
                refine pE_callV (d' := 0) (as := []) dX12_unit_84 lkX12_282 (cwX12_countUnit _ _) ivX12_countUnit ⟨_, rfl, rfl⟩ (by first | assumption | rfl) rfl rfl (Nat.le_of_ble_eq_true rfl) (by decide) pKK ?_
                refine M_X12_countUnit (u0 := u0 + u) (u := u) (hm.fr x1).2.1 (hm.fr x1).2.2.1 ?_
                refine pE_aload_n dX12_unit_87 rfl rfl ?_
                refine pE_bipush (v := nI 20) dX12_unit_88 rfl ?_
                refine pE_callV (d' := 3) (as := [_]) dX12_unit_90 lkX12_276 (cwX12_openUp _ _) ivX12_openUp ⟨_, rfl, rfl⟩ (by first | assumption | rfl) rfl rfl (Nat.le_of_ble_eq_true rfl) (by decide) pKK ?_
                refine M_X12_openUpE (e := (if tK B n p = 1 then 1 else 2, tQ B n p)) (x2.fr (by rw [pu_at, if_neg (by omega), pu_at, if_neg (by omega)]) (by rw [pu_at, if_neg (by omega), pu_at, if_neg (by omega)])) (k := st.length) (d := dpL st) (by rw [pu_at, if_neg (by omega), pu_at, if_neg (by omega)]; exact (hm.fr x1).2.2.2.2.1.1) (by omega) (by rw [pu_at, if_neg (by omega), pu_at, if_neg (by omega)]; exact (hm.fr x1).2.2.2.1) ?_
                refine pE_goto (tgt := 2) dX12_unit_93 (by decide) ?_
                refine pE_iload_n dX12_unit_2 rfl rfl ?_
                refine pE_if_eq (tgt := 101) dX12_unit_3 (by decide) (fun h3 => ?_) (fun h3 => ?_)
                · have g3 := nq_eq0 (by omega) h3
                  exact absurd g3 (by decide)
                · have g3 := nq_ne0 (by omega) h3
                  refine pE_aload_n dX12_unit_6 rfl rfl ?_
                  refine pE_getI dX12_unit_7 flX12_182 rfl (Or.inl rfl) (by first | assumption | rfl) ?_
                  rw [pu_at, if_neg (by omega), pu_at, if_neg (by omega), pu_ne _ _ _ (show (67 : Nat) ≠ 76 by decide), pu_at, if_neg (by omega), pu_at, if_neg (by omega), x3]
                  refine pE_if_ne (tgt := 101) dX12_unit_10 (by decide) (fun h10 => ?_) (fun h10 => ?_)
                  · have g10 := nq_ne0 (by omega) h10
                    refine pE_aload_n dX12_unit_101 rfl rfl ?_
                    refine pE_getI dX12_unit_102 flX12_182 rfl (Or.inl rfl) (by first | assumption | rfl) ?_
                    rw [pu_at, if_neg (by omega), pu_at, if_neg (by omega), pu_ne _ _ _ (show (67 : Nat) ≠ 76 by decide), pu_at, if_neg (by omega), pu_at, if_neg (by omega), x3]
                    refine pE_if_le (tgt := 109) dX12_unit_105 (by decide) (fun h105 => ?_) (fun h105 => ?_)
                    · have g105 := nq_le0 (by omega) h105
                      omega
                    · have g105 := nq_nle0 (by omega) h105
                      refine pE_vret dX12_unit_108 rfl rfl ?_
                      refine hq _ _ (((hx.tr x1.f).tr ((sMF.rf.u67 (by omega)).u67 (by omega))).tr (((sMF.rf.u76).u67 (by omega)).u67 (by omega))) jx (Or.inl ⟨_, ?_, x2.fr ?_ ?_⟩)
                      · rw [ruU_br7 hru hbr (by omega), if_neg (by have := (tkGb_k hbr).1; omega)]
                      · rw [pu_at, if_neg (by omega), pu_at, if_neg (by omega), pu_ne _ _ _ (by decide), pu_at, if_neg (by omega), pu_at, if_neg (by omega)]
                      · rw [pu_at, if_neg (by omega), pu_at, if_neg (by omega), pu_ne _ _ _ (by decide), pu_at, if_neg (by omega), pu_at, if_neg (by omega)]
                  · have g10 := nq_eq0 (by omega) h10
                    omega
set_option maxHeartbeats 400000 in
set_option maxRecDepth 100000 in
theorem M_X12_unit {l : Launch} {X : pX} {t g : Nat} {I : pHI} {J : pHJ} {Q : pQ} {n w u0 f0 : Nat} {B : Nat → Nat} {res : pPS} {st : List Nat} {p u : Nat} {o : pP} (hT : tpM I n B) (hw : w ≤ 1) (hu0 : u0 ≤ 30) (hru : ruM B n f0 (true, st, liS o u (sOf B n p)) = some res) (hr : mR0 B n p I J) (hm : mQ w u0 st o u I) (hi : iN true st o u) (hq : ∀ I1 J1, sMF w I I1 → jM J J1 → unR B n w u0 f0 res I1 J1 → Q none I1 J1 (pR t g)) : pM l X yX12_unit mX12_unit 4 [.ref 67] pK pK I J (pR t g) Q := by
  refine pM_of rfl (fun h => by cases h) rfl pKM (Nat.le_of_ble_eq_true rfl) ?_
  refine pE_iconst (v := nI 1) dX12_unit_0 rfl ?_
  refine pE_istore_n (lc' := [_, some (.int _), _]) dX12_unit_1 rfl (Nat.le_of_ble_eq_true rfl) rfl rfl ?_
  exact L_X12_unit hT hw hu0 hq (f0 + 1) f0 _ st p o u I J (by omega) (Nat.le_refl _) hru sMF.rf jM.rf hr hm hi
