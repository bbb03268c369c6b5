/-! the model's formula that is being read: w which one; a stack st, steps o, units u, u0 units ahead of it *) -/
def mW (k m : Nat) (a b : Int32) : Prop := (k = 0 ∧ a = nI 0 ∧ b = nI m) ∨ ((1 ≤ k ∧ k ≤ 6) ∧ a = nI 1 ∧ b = nI (k - 1)) ∨ (k = 7 ∧ a = nI 2) ∨ (isSg k ∧ a = nI 3 ∧ b = nI k)
def mG (w : Nat) (o : pP) (I : pHI) : Prop := I 72 w = nI o.length ∧ ∀ i k m, o[i]? = some (k, m) → mW k m (I 70 (320 * w + i)) (I 71 (320 * w + i))
def mKs (st : List Nat) (I : pHI) : Prop := I 67 21 = nI st.length ∧ ∀ i c, st[i]? = some c → I 76 (st.length - 1 - i) = nI c
def okS (st : List Nat) : Prop := ∀ c, c ∈ st → c = 20 ∨ c = 21 ∨ isSg c
def mQ (w u0 : Nat) (st : List Nat) (o : pP) (u : Nat) (I : pHI) : Prop := I 67 20 = nI w ∧ I 67 22 = nI (u0 + u) ∧ I 67 24 = nI u ∧ I 67 25 = nI (dpL st) ∧ mKs st I ∧ mG w o I ∧ okS st
/-- what reading the formula w changes -/
def sMF (w : Nat) (I I1 : pHI) : Prop := ∀ c k, ¬ (c = 67 ∧ (k = 2 ∨ k = 3 ∨ k = 4 ∨ (6 ≤ k ∧ k ≤ 8) ∨ (20 ≤ k ∧ k ≤ 25 ∧ k ≠ 23))) → ¬ ((c = 70 ∨ c = 71) ∧ 320 * w ≤ k ∧ k < 320 * w + 320) → ¬ (c = 72 ∧ k = w) → c ≠ 76 → I1 c k = I c k
theorem sMF.rf {w : Nat} {I : pHI} : sMF w I I := fun _ _ _ _ _ _ => rfl
theorem sMF.tr {w : Nat} {I I1 I2 : pHI} (h1 : sMF w I I1) (h2 : sMF w I1 I2) : sMF w I I2 := fun c k a b d e => (h2 c k a b d e).trans (h1 c k a b d e)
theorem sMR.f {w : Nat} {I I1 : pHI} (h : sMR I I1) : sMF w I I1 := fun c k a _ _ _ => h c k (fun q => a ⟨q.1, by omega⟩)
theorem sMF.u67 {w : Nat} {I I1 : pHI} {k : Nat} {x : Int32} (h : sMF w I I1) (hk : 20 ≤ k ∧ k ≤ 25 ∧ k ≠ 23) : sMF w I (pu I1 67 k x) := fun c j a b d e => by
  rw [pu_at, if_neg (fun q => a ⟨q.1, by omega⟩)]; exact h c j a b d e
theorem sMF.u76 {w : Nat} {I I1 : pHI} {k : Nat} {x : Int32} (h : sMF w I I1) : sMF w I (pu I1 76 k x) := fun c j a b d e => by
  rw [pu_at, if_neg (fun q => e q.1)]; exact h c j a b d e
theorem sMF.u70 {w c i : Nat} {I I1 : pHI} {x : Int32} (h : sMF w I I1) (hc : c = 70 ∨ c = 71) (hi : i < 320) : sMF w I (pu I1 c (320 * w + i) x) := fun c' j a b d e => by
  rw [pu_at, if_neg (fun q => b ⟨by omega, by omega⟩)]; exact h c' j a b d e
theorem sMF.u72 {w c : Nat} {I I1 : pHI} {x : Int32} (h : sMF w I I1) (hc : c = 72) : sMF w I (pu I1 c w x) := fun c' j a b d e => by
  rw [pu_at, if_neg (fun q => d ⟨by omega, by omega⟩)]; exact h c' j a b d e
theorem tpM.f {w n : Nat} {I I1 : pHI} {B : Nat → Nat} (h : tpM I n B) (hx : sMF w I I1) : tpM I1 n B :=
  h.fr (hx 67 5 (by omega) (by omega) (by omega) (by omega)) (fun i => hx 68 i (by omega) (by omega) (by omega) (by omega))
theorem mKs.push {st : List Nat} {I : pHI} {c : Nat} (h : mKs st I) : mKs (c :: st) (pu (pu I 76 st.length (nI c)) 67 21 (nI (st.length + 1))) := by
  refine ⟨by rw [pu_at, if_pos ⟨rfl, rfl⟩]; rfl, fun i d hi => ?_⟩
  rw [pu_at, if_neg (by omega), pu_at]
  cases i with
  | zero => cases hi; rw [if_pos ⟨rfl, by simp⟩]
  | succ i =>
    rw [List.getElem?_cons_succ] at hi
    have hl := (List.getElem?_eq_some_iff.mp hi).1
    rw [if_neg (by simp only [List.length_cons]; omega), ← h.2 i d hi]
    congr 1
    simp only [List.length_cons]
    omega
theorem mKs.top {st : List Nat} {I : pHI} {c : Nat} (h : mKs (c :: st) I) : I 76 st.length = nI c := by
  have := h.2 0 c rfl
  simpa using this
theorem mKs.pop {st : List Nat} {I : pHI} {c : Nat} (h : mKs (c :: st) I) : mKs st (pu I 67 21 (nI st.length)) := by
  refine ⟨by rw [pu_at, if_pos ⟨rfl, rfl⟩], fun i d hi => ?_⟩
  rw [pu_at, if_neg (by omega)]
  have hl := (List.getElem?_eq_some_iff.mp hi).1
  rw [← h.2 (i + 1) d (by rw [List.getElem?_cons_succ]; exact hi)]
  congr 1
  simp only [List.length_cons]
  omega
theorem mKs.fr {st : List Nat} {I I1 : pHI} (h : mKs st I) (h1 : I1 67 21 = I 67 21) (h2 : ∀ i, I1 76 i = I 76 i) : mKs st I1 := ⟨h1.trans h.1, fun i c hi => (h2 _).trans (h.2 i c hi)⟩
theorem mG.fr {w : Nat} {o : pP} {I I1 : pHI} (h : mG w o I) (h1 : I1 72 w = I 72 w) (h2 : ∀ i, i < o.length → I1 70 (320 * w + i) = I 70 (320 * w + i) ∧ I1 71 (320 * w + i) = I 71 (320 * w + i)) : mG w o I1 := by
  refine ⟨h1.trans h.1, fun i k m e => ?_⟩
  have := h2 i (List.getElem?_eq_some_iff.mp e).1
  rw [this.1, this.2]
  exact h.2 i k m e
theorem mG.app {w k m : Nat} {a b : Int32} {o : pP} {I : pHI} (h : mG w o I) (hw : mW k m a b) : mG w (o ++ [(k, m)]) (pu (pu (pu I 70 (320 * w + o.length) a) 71 (320 * w + o.length) b) 72 w (nI (o.length + 1))) := by
  refine ⟨by rw [pu_at, if_pos ⟨rfl, rfl⟩, List.length_append, List.length_singleton], fun i k' m' e => ?_⟩
  have e1 : ∀ j, pu (pu (pu I 70 (320 * w + o.length) a) 71 (320 * w + o.length) b) 72 w (nI (o.length + 1)) 70 j = if j = 320 * w + o.length then a else I 70 j := fun j => by rw [pu_at, if_neg (by omega), pu_at, if_neg (by omega), pu_at]; simp
  have e2 : ∀ j, pu (pu (pu I 70 (320 * w + o.length) a) 71 (320 * w + o.length) b) 72 w (nI (o.length + 1)) 71 j = if j = 320 * w + o.length then b else I 71 j := fun j => by rw [pu_at, if_neg (by omega), pu_at, pu_ne _ _ _ (show (71 : Nat) ≠ 70 by decide)]; simp
  rw [e1, e2]
  have hl := (List.getElem?_eq_some_iff.mp e).1
  rw [List.length_append, List.length_singleton] at hl
  by_cases c : i = o.length
  · subst c
    rw [List.getElem?_append_right (Nat.le_refl _), Nat.sub_self] at e
    cases e
    rw [if_pos rfl, if_pos rfl]
    exact hw
  · rw [List.getElem?_append_left (by omega)] at e
    rw [if_neg (by omega), if_neg (by omega)]
    exact h.2 i k' m' e
theorem isSg_b {c : Nat} (h : isSg c) : 37 ≤ c ∧ c ≤ 124 := by unfold isSg at h; omega
theorem okS_b {st : List Nat} {c : Nat} (h : okS st) (hc : c ∈ st) : c ≤ 200 := by
  rcases h c hc with a | a | a
  · omega
  · omega
  · have := isSg_b a; omega
theorem mR0.f {B : Nat → Nat} {n p : Nat} {I I1 : pHI} {J : pHJ} (h : mR0 B n p I J) (h1 : ∀ k, k < 20 → I1 67 k = I 67 k) : mR0 B n p I1 J := h.fr (fun k hk => h1 k (by omega))
set_option maxHeartbeats 400000 in
set_option maxRecDepth 100000 in
theorem M_X12_add {l : Launch} {X : pX} {t g : Nat} {I : pHI} {J : pHJ} {Q : pQ} {w m : Nat} {a b : Int32} (hw : w ≤ 1) (h20 : I 67 20 = nI w) (h72 : I 72 w = nI m) (hm : m < 320) (hq : Q none (pu (pu (pu I 70 (320 * w + m) a) 71 (320 * w + m) b) 72 w (nI (m + 1))) J (pR t g)) : pM l X yX12_add mX12_add 0 [.ref 67, .int a, .int b] pK pK I J (pR t g) Q := by
  refine pM_of rfl (fun h => by cases h) rfl pKM (Nat.le_of_ble_eq_true rfl) ?_
  refine pE_aload_n dX12_add_0 rfl rfl ?_
  refine pE_getR dX12_add_1 flX12_21 rfl (by first | assumption | rfl) (by first | assumption | rfl) ?_
  refine pE_sipush (v := nI 320) dX12_add_4 rfl ?_
  refine pE_aload_n dX12_add_7 rfl rfl ?_
  refine pE_getI dX12_add_8 flX12_251 rfl (Or.inl rfl) (by first | assumption | rfl) ?_
  rw [h20]
  refine pE_imulN dX12_add_11 ?_
  refine pE_aload_n dX12_add_12 rfl rfl ?_
  refine pE_getR dX12_add_13 flX12_27 rfl (by first | assumption | rfl) (by first | assumption | rfl) ?_
  refine pE_aload_n dX12_add_16 rfl rfl ?_
  refine pE_getI dX12_add_17 flX12_251 rfl (Or.inl rfl) (by first | assumption | rfl) ?_
  rw [h20]
  refine pE_ialoadN dX12_add_20 (by first | assumption | rfl) (by first | assumption | omega) (by omega) ?_
  rw [h72]
  refine pE_iaddN dX12_add_21 ?_
  refine pE_iload_n dX12_add_22 rfl rfl ?_
  refine pE_iastoreN dX12_add_23 (by first | assumption | rfl) (by first | assumption | omega) (by omega) ?_
  refine pE_aload_n dX12_add_24 rfl rfl ?_
  refine pE_getR dX12_add_25 flX12_24 rfl (by first | assumption | rfl) (by first | assumption | rfl) ?_
  refine pE_sipush (v := nI 320) dX12_add_28 rfl ?_
  refine pE_aload_n dX12_add_31 rfl rfl ?_
  refine pE_getI dX12_add_32 flX12_251 rfl (Or.inl rfl) (by first | assumption | rfl) ?_
  rw [pu_ne _ _ _ (show (67 : Nat) ≠ 70 by decide), h20]
  refine pE_imulN dX12_add_35 ?_
  refine pE_aload_n dX12_add_36 rfl rfl ?_
  refine pE_getR dX12_add_37 flX12_27 rfl (by first | assumption | rfl) (by first | assumption | rfl) ?_
  refine pE_aload_n dX12_add_40 rfl rfl ?_
  refine pE_getI dX12_add_41 flX12_251 rfl (Or.inl rfl) (by first | assumption | rfl) ?_
  rw [pu_ne _ _ _ (show (67 : Nat) ≠ 70 by decide), h20]
  refine pE_ialoadN dX12_add_44 (by first | assumption | rfl) (by first | assumption | omega) (by omega) ?_
  rw [pu_ne _ _ _ (show (72 : Nat) ≠ 70 by decide), h72]
  refine pE_iaddN dX12_add_45 ?_
  refine pE_iload_n dX12_add_46 rfl rfl ?_
  refine pE_iastoreN dX12_add_47 (by first | assumption | rfl) (by first | assumption | omega) (by omega) ?_
  refine pE_aload_n dX12_add_48 rfl rfl ?_
  refine pE_getR dX12_add_49 flX12_27 rfl (by first | assumption | rfl) (by first | assumption | rfl) ?_
  refine pE_aload_n dX12_add_52 rfl rfl ?_
  refine pE_getI dX12_add_53 flX12_251 rfl (Or.inl rfl) (by first | assumption | rfl) ?_
  rw [pu_ne _ _ _ (show (67 : Nat) ≠ 71 by decide), pu_ne _ _ _ (show (67 : Nat) ≠ 70 by decide), h20]
  refine pE_dup2 dX12_add_56 ?_
  refine pE_ialoadN dX12_add_57 (by first | assumption | rfl) (by first | assumption | omega) (by omega) ?_
  rw [pu_ne _ _ _ (show (72 : Nat) ≠ 71 by decide), pu_ne _ _ _ (show (72 : Nat) ≠ 70 by decide), h72]
  refine pE_iconst (v := nI 1) dX12_add_58 rfl ?_
  refine pE_iaddN dX12_add_59 ?_
  refine pE_iastoreN dX12_add_60 (by first | assumption | rfl) (by first | assumption | omega) (by omega) ?_
  refine pE_vret dX12_add_61 rfl rfl ?_
  exact hq
set_option maxHeartbeats 400000 in
set_option maxRecDepth 100000 in
theorem M_X12_tight {l : Launch} {X : pX} {t g : Nat} {I : pHI} {J : pHJ} {Q : pQ} {c : Nat} (hc : c = 20 ∨ c = 21 ∨ isSg c) (hq : Q (some (.int (nI (tgt c)))) I J (pR t g)) : pM l X yX12_tight mX12_tight 0 [.int (nI c)] pK pK I J (pR t g) Q := by
  refine pM_of rfl (fun h => by cases h) rfl pKM (Nat.le_of_ble_eq_true rfl) ?_
  refine pE_iload_n dX12_tight_0 rfl rfl ?_
  unfold isSg at hc
  rcases hc with rfl | rfl | rfl | rfl | rfl | rfl | rfl | rfl | rfl | rfl | rfl | rfl
  · refine pE_lookup (off := 85) (tgt := 86) dX12_tight_1 (by decide) (by decide +kernel) (by decide) ?_
    refine pE_bipush (v := nI 6) dX12_tight_86 rfl ?_
    refine pE_iret dX12_tight_88 rfl rfl ?_
    exact hq
  · refine pE_lookup (off := 79) (tgt := 80) dX12_tight_1 (by decide) (by decide +kernel) (by decide) ?_
    refine pE_iconst (v := nI 3) dX12_tight_80 rfl ?_
    refine pE_iret dX12_tight_81 rfl rfl ?_
    exact hq
  · refine pE_lookup (off := 85) (tgt := 86) dX12_tight_1 (by decide) (by decide +kernel) (by decide) ?_
    refine pE_bipush (v := nI 6) dX12_tight_86 rfl ?_
    refine pE_iret dX12_tight_88 rfl rfl ?_
    exact hq
  · refine pE_lookup (off := 77) (tgt := 78) dX12_tight_1 (by decide) (by decide +kernel) (by decide) ?_
    refine pE_iconst (v := nI 2) dX12_tight_78 rfl ?_
    refine pE_iret dX12_tight_79 rfl rfl ?_
    exact hq
  · refine pE_lookup (off := 85) (tgt := 86) dX12_tight_1 (by decide) (by decide +kernel) (by decide) ?_
    refine pE_bipush (v := nI 6) dX12_tight_86 rfl ?_
    refine pE_iret dX12_tight_88 rfl rfl ?_
    exact hq
  · refine pE_lookup (off := 83) (tgt := 84) dX12_tight_1 (by decide) (by decide +kernel) (by decide) ?_
    refine pE_iconst (v := nI 5) dX12_tight_84 rfl ?_
    refine pE_iret dX12_tight_85 rfl rfl ?_
    exact hq
  · refine pE_lookup (off := 83) (tgt := 84) dX12_tight_1 (by decide) (by decide +kernel) (by decide) ?_
    refine pE_iconst (v := nI 5) dX12_tight_84 rfl ?_
    refine pE_iret dX12_tight_85 rfl rfl ?_
    exact hq
  · refine pE_lookup (off := 85) (tgt := 86) dX12_tight_1 (by decide) (by decide +kernel) (by decide) ?_
    refine pE_bipush (v := nI 6) dX12_tight_86 rfl ?_
    refine pE_iret dX12_tight_88 rfl rfl ?_
    exact hq
  · refine pE_lookup (off := 81) (tgt := 82) dX12_tight_1 (by decide) (by decide +kernel) (by decide) ?_
    refine pE_iconst (v := nI 4) dX12_tight_82 rfl ?_
    refine pE_iret dX12_tight_83 rfl rfl ?_
    exact hq
  · refine pE_lookup (off := 81) (tgt := 82) dX12_tight_1 (by decide) (by decide +kernel) (by decide) ?_
    refine pE_iconst (v := nI 4) dX12_tight_82 rfl ?_
    refine pE_iret dX12_tight_83 rfl rfl ?_
    exact hq
  · refine pE_lookup (off := 81) (tgt := 82) dX12_tight_1 (by decide) (by decide +kernel) (by decide) ?_
    refine pE_iconst (v := nI 4) dX12_tight_82 rfl ?_
    refine pE_iret dX12_tight_83 rfl rfl ?_
    exact hq
  · refine pE_lookup (off := 75) (tgt := 76) dX12_tight_1 (by decide) (by decide +kernel) (by decide) ?_
    refine pE_iconst (v := nI 1) dX12_tight_76 rfl ?_
    refine pE_iret dX12_tight_77 rfl rfl ?_
    exact hq
set_option maxHeartbeats 400000 in
set_option maxRecDepth 100000 in
theorem L_X12_close {l : Launch} {X : pX} {t g : Nat} {I : pHI} {J : pHJ} {Q : pQ} {w u0 u tt : Nat} {st0 : List Nat} {o0 : pP} (ht : tt ≤ 6) (hw : w ≤ 1) (hq : ∀ I1, sMF w I I1 → (∀ k, k < 20 → I1 67 k = I 67 k) → mQ w u0 (clL tt st0) (o0 ++ clP tt st0) u I1 → Q none I1 J (pR t g)) : ∀ (st : List Nat) (o : pP) (I1 : pHI), o.length + st.length ≤ 300 → st.length ≤ 100 → sMF w I I1 → (∀ k, k < 20 → I1 67 k = I 67 k) → mQ w u0 st o u I1 → clL tt st = clL tt st0 → o ++ clP tt st = o0 ++ clP tt st0 → pE l X mX12_close 1 pK 0 [some (.ref 67), some (.int (nI tt))] [] pK I1 J (pR t g) Q := by
  intro st
  induction st with
  | nil =>
    intro o I1 hl hl2 hx h19 hm e1 e2
    have hm2 := hm
    obtain ⟨m1, m2, m3, m4, m5, m6, m7⟩ := hm
    refine pE_aload_n dX12_close_0 rfl rfl ?_
    refine pE_getI dX12_close_1 flX12_254 rfl (Or.inl rfl) (by first | assumption | rfl) ?_
    rw [m5.1]
    refine pE_if_le (tgt := 101) dX12_close_4 (by decide) (fun h4 => ?_) (fun h4 => ?_)
    · have g4 := nq_le0 (by omega) h4
      refine pE_vret dX12_close_101 rfl rfl ?_
      refine hq I1 hx h19 ?_
      rw [← e1, ← e2, clL, clP, List.append_nil]
      exact hm2
    · have g4 := nq_nle0 (by omega) h4
      exact absurd g4 (by simp)
  | cons c st ih =>
    intro o I1 hl hl2 hx h19 hm e1 e2
    have hm2 := hm
    obtain ⟨m1, m2, m3, m4, m5, m6, m7⟩ := hm
    have hc := m7 c List.mem_cons_self
    have hcb := okS_b m7 List.mem_cons_self
    have hln : (c :: st).length = st.length + 1 := rfl
    have h21 : I1 67 21 = nI (st.length + 1) := m5.1
    have htb := tgt_b c
    simp only [List.length_cons] at hl hl2
    have m7s : okS st := fun x hx => m7 x (List.mem_cons_of_mem _ hx)
    refine pE_aload_n dX12_close_0 rfl rfl ?_
    refine pE_getI dX12_close_1 flX12_254 rfl (Or.inl rfl) (by first | assumption | rfl) ?_
    rw [h21]
    refine pE_if_le (tgt := 101) dX12_close_4 (by decide) (fun h4 => ?_) (fun h4 => ?_)
    · have g4 := nq_le0 (by omega) h4
      omega
    · have g4 := nq_nle0 (by omega) h4
      refine pE_aload_n dX12_close_7 rfl rfl ?_
      refine pE_getR dX12_close_8 flX12_39 rfl (by first | assumption | rfl) (by first | assumption | rfl) ?_
      refine pE_aload_n dX12_close_11 rfl rfl ?_
      refine pE_getI dX12_close_12 flX12_254 rfl (Or.inl rfl) (by first | assumption | rfl) ?_
      rw [h21]
      refine pE_iconst (v := nI 1) dX12_close_15 rfl ?_
      refine pE_isubN dX12_close_16 (by omega) ?_
      refine pE_ialoadN dX12_close_17 (by first | assumption | rfl) (by first | assumption | omega) (by omega) ?_
      rw [show I1 76 (st.length + 1 - 1) = nI c from (by rw [Nat.add_sub_cancel]; exact m5.top)]
      refine pE_bipush (v := nI 20) dX12_close_18 rfl ?_
      refine pE_icmp_eq (tgt := 101) dX12_close_20 (by decide) (fun h20 => ?_) (fun h20 => ?_)
      · have g20 := nq_eq (by omega) (by omega) h20
        refine pE_vret dX12_close_101 rfl rfl ?_
        refine hq I1 hx h19 ?_
        rw [← e1, ← e2, clL, clP, if_neg (by omega), if_neg (by omega), List.append_nil]
        exact hm2
      · have g20 := nq_ne (by omega) (by omega) h20
        refine pE_aload_n dX12_close_23 rfl rfl ?_
        refine pE_getR dX12_close_24 flX12_39 rfl (by first | assumption | rfl) (by first | assumption | rfl) ?_
        refine pE_aload_n dX12_close_27 rfl rfl ?_
        refine pE_getI dX12_close_28 flX12_254 rfl (Or.inl rfl) (by first | assumption | rfl) ?_
        rw [h21]
        refine pE_iconst (v := nI 1) dX12_close_31 rfl ?_
        refine pE_isubN dX12_close_32 (by omega) ?_
        refine pE_ialoadN dX12_close_33 (by first | assumption | rfl) (by first | assumption | omega) (by omega) ?_
        rw [show I1 76 (st.length + 1 - 1) = nI c from (by rw [Nat.add_sub_cancel]; exact m5.top)]
        refine pE_callS (d' := 0) (as := [_]) dX12_close_34 lkX12_257 (cwX12_tight _ _) svX12_tight rfl rfl (Nat.le_of_ble_eq_true rfl) (by decide) pKK ?_
        refine M_X12_tight hc ?_
        refine pE_iload_n dX12_close_37 rfl rfl ?_
        refine pE_icmp_lt (tgt := 101) dX12_close_38 (by decide) (fun h38 => ?_) (fun h38 => ?_)
        · have g38 := nq_lt (by omega) (by omega) h38
          refine pE_vret dX12_close_101 rfl rfl ?_
          refine hq I1 hx h19 ?_
          rw [← e1, ← e2, clL, clP, if_neg (by omega), if_neg (by omega), List.append_nil]
          exact hm2
        · have g38 := nq_nlt (by omega) (by omega) h38
          refine pE_aload_n dX12_close_41 rfl rfl ?_
          refine pE_dupR dX12_close_42 ?_
          refine pE_getI dX12_close_43 flX12_254 rfl (Or.inl rfl) (by first | assumption | rfl) ?_
          rw [h21]
          refine pE_iconst (v := nI 1) dX12_close_46 rfl ?_
          refine pE_isubN dX12_close_47 (by omega) ?_
          refine pE_putI dX12_close_48 flX12_254 ftX12 fiX12_21 rfl rfl (by first | assumption | rfl) ?_
          refine pE_aload_n dX12_close_51 rfl rfl ?_
          refine pE_getR dX12_close_52 flX12_39 rfl (by first | assumption | rfl) (by first | assumption | rfl) ?_
          refine pE_aload_n dX12_close_55 rfl rfl ?_
          refine pE_getI dX12_close_56 flX12_254 rfl (Or.inl rfl) (by first | assumption | rfl) ?_
          rw [pu_at, if_pos ⟨rfl, rfl⟩]
          refine pE_ialoadN dX12_close_59 (by first | assumption | rfl) (by first | assumption | omega) (by omega) ?_
          rw [show pu I1 67 21 (nI (st.length + 1 - 1)) 76 (st.length + 1 - 1) = nI c from (by rw [pu_at, if_neg (by omega), Nat.add_sub_cancel]; exact m5.top)]
          refine pE_bipush (v := nI 21) dX12_close_60 rfl ?_
          refine pE_icmp_ne (tgt := 84) dX12_close_62 (by decide) (fun h62 => ?_) (fun h62 => ?_)
          · have g62 := nq_ne (by omega) (by omega) h62
            have k0 : c ≠ 20 ∧ tt ≤ tgt c := ⟨by omega, by omega⟩
            rw [clL, if_pos k0] at e1
            rw [clP, if_pos k0] at e2
            have k21 : c ≠ 21 := g62
            refine pE_aload_n dX12_close_84 rfl rfl ?_
            refine pE_iconst (v := nI 3) dX12_close_85 rfl ?_
            refine pE_aload_n dX12_close_86 rfl rfl ?_
            refine pE_getR dX12_close_87 flX12_39 rfl (by first | assumption | rfl) (by first | assumption | rfl) ?_
            refine pE_aload_n dX12_close_90 rfl rfl ?_
            refine pE_getI dX12_close_91 flX12_254 rfl (Or.inl rfl) (by first | assumption | rfl) ?_
            rw [pu_at, if_pos ⟨rfl, rfl⟩]
            refine pE_ialoadN dX12_close_94 (by first | assumption | rfl) (by first | assumption | omega) (by omega) ?_
            rw [show pu I1 67 21 (nI (st.length + 1 - 1)) 76 (st.length + 1 - 1) = nI c from (by rw [pu_at, if_neg (by omega), Nat.add_sub_cancel]; exact m5.top)]
            refine pE_callV (d' := 0) (as := [_, _]) dX12_close_95 lkX12_260 (cwX12_add _ _) ivX12_add ⟨_, rfl, rfl⟩ (by first | assumption | rfl) rfl rfl (Nat.le_of_ble_eq_true rfl) (by decide) pKK ?_
            refine M_X12_add (w := w) (m := o.length) hw (by rw [pu_at, if_neg (by omega)]; exact m1) (by rw [pu_at, if_neg (by omega)]; exact m6.1) (by omega) ?_
            refine pE_goto (tgt := 0) dX12_close_98 (by decide) ?_
            have hd0 : dpL (c :: st) = dpL st := by exact dp_n k0.1 k21
            rw [hd0] at m4
            refine ih (o ++ [(c, 0)]) _ (by rw [List.length_append, List.length_singleton]; omega) (by omega) ((((hx.u67 (by omega)).u70 (Or.inl rfl) (by omega)).u70 (Or.inr rfl) (by omega)).u72 rfl) (fun k hk => by rw [pu_ne _ _ _ (show (67 : Nat) ≠ 72 by decide), pu_ne _ _ _ (show (67 : Nat) ≠ 71 by decide), pu_ne _ _ _ (show (67 : Nat) ≠ 70 by decide), pu_at, if_neg (by omega)]; exact h19 k hk) ⟨?_, ?_, ?_, ?_, ?_, ?_, m7s⟩ e1 (by rw [← e2, List.append_assoc]; rw [show stO c = (c, 0) from stO_n k21]; rfl)
            · rw [pu_ne _ _ _ (show (67 : Nat) ≠ 72 by decide), pu_ne _ _ _ (show (67 : Nat) ≠ 71 by decide), pu_ne _ _ _ (show (67 : Nat) ≠ 70 by decide), pu_at, if_neg (by omega)]; exact m1
            · rw [pu_ne _ _ _ (show (67 : Nat) ≠ 72 by decide), pu_ne _ _ _ (show (67 : Nat) ≠ 71 by decide), pu_ne _ _ _ (show (67 : Nat) ≠ 70 by decide), pu_at, if_neg (by omega)]; exact m2
            · rw [pu_ne _ _ _ (show (67 : Nat) ≠ 72 by decide), pu_ne _ _ _ (show (67 : Nat) ≠ 71 by decide), pu_ne _ _ _ (show (67 : Nat) ≠ 70 by decide), pu_at, if_neg (by omega)]; exact m3
            · rw [pu_ne _ _ _ (show (67 : Nat) ≠ 72 by decide), pu_ne _ _ _ (show (67 : Nat) ≠ 71 by decide), pu_ne _ _ _ (show (67 : Nat) ≠ 70 by decide), pu_at, if_neg (by omega)]; exact m4
            · refine (m5.pop).fr ?_ (fun i => ?_)
              · rw [pu_ne _ _ _ (show (67 : Nat) ≠ 72 by decide), pu_ne _ _ _ (show (67 : Nat) ≠ 71 by decide), pu_ne _ _ _ (show (67 : Nat) ≠ 70 by decide), Nat.add_sub_cancel]
              · rw [pu_ne _ _ _ (by decide), pu_ne _ _ _ (by decide), pu_ne _ _ _ (by decide), Nat.add_sub_cancel]
            · have k6 : mG w o (pu I1 67 21 (nI (st.length + 1 - 1))) := m6.fr (by rw [pu_ne _ _ _ (by decide)]) (fun i _ => ⟨by rw [pu_ne _ _ _ (by decide)], by rw [pu_ne _ _ _ (by decide)]⟩)
              exact k6.app (Or.inr (Or.inr (Or.inr ⟨by rcases hc with z | z | z; exact absurd z k0.1; exact absurd z k21; exact z, rfl, rfl⟩)))
          · have g62 := nq_eq (by omega) (by omega) h62
            have k0 : c ≠ 20 ∧ tt ≤ tgt c := ⟨by omega, by omega⟩
            rw [clL, if_pos k0] at e1
            rw [clP, if_pos k0] at e2
            have k21 : c = 21 := g62
            refine pE_aload_n dX12_close_65 rfl rfl ?_
            refine pE_iconst (v := nI 2) dX12_close_66 rfl ?_
            refine pE_iconst (v := nI 0) dX12_close_67 rfl ?_
            refine pE_callV (d' := 0) (as := [_, _]) dX12_close_68 lkX12_260 (cwX12_add _ _) ivX12_add ⟨_, rfl, rfl⟩ (by first | assumption | rfl) rfl rfl (Nat.le_of_ble_eq_true rfl) (by decide) pKK ?_
            refine M_X12_add (w := w) (m := o.length) hw (by rw [pu_at, if_neg (by omega)]; exact m1) (by rw [pu_at, if_neg (by omega)]; exact m6.1) (by omega) ?_
            have hd1 : dpL (c :: st) = dpL st + 1 := dp_y (Or.inr k21)
            rw [hd1] at m4
            refine pE_aload_n dX12_close_71 rfl rfl ?_
            refine pE_dupR dX12_close_72 ?_
            refine pE_getI dX12_close_73 flX12_264 rfl (Or.inl rfl) (by first | assumption | rfl) ?_
            rw [pu_ne _ _ _ (show (67 : Nat) ≠ 72 by decide), pu_ne _ _ _ (show (67 : Nat) ≠ 71 by decide), pu_ne _ _ _ (show (67 : Nat) ≠ 70 by decide), pu_at, if_neg (by omega), (show I1 67 25 = nI (dpL st + 1) from m4)]
            refine pE_iconst (v := nI 1) dX12_close_76 rfl ?_
            refine pE_isubN dX12_close_77 (by omega) ?_
            refine pE_putI dX12_close_78 flX12_264 ftX12 fiX12_25 rfl rfl (by first | assumption | rfl) ?_
            refine pE_goto (tgt := 0) dX12_close_81 (by decide) ?_
            refine ih (o ++ [(7, 0)]) _ (by rw [List.length_append, List.length_singleton]; omega) (by omega) (((((hx.u67 (by omega)).u70 (Or.inl rfl) (by omega)).u70 (Or.inr rfl) (by omega)).u72 rfl).u67 (by omega)) (fun k hk => by rw [pu_at, if_neg (by omega), pu_ne _ _ _ (show (67 : Nat) ≠ 72 by decide), pu_ne _ _ _ (show (67 : Nat) ≠ 71 by decide), pu_ne _ _ _ (show (67 : Nat) ≠ 70 by decide), pu_at, if_neg (by omega)]; exact h19 k hk) ⟨?_, ?_, ?_, ?_, ?_, ?_, m7s⟩ e1 (by rw [← e2, List.append_assoc]; rw [show stO c = (7, 0) from by unfold stO; rw [if_pos k21]]; rfl)
            · rw [pu_at, if_neg (by omega), pu_ne _ _ _ (show (67 : Nat) ≠ 72 by decide), pu_ne _ _ _ (show (67 : Nat) ≠ 71 by decide), pu_ne _ _ _ (show (67 : Nat) ≠ 70 by decide), pu_at, if_neg (by omega)]; exact m1
            · rw [pu_at, if_neg (by omega), pu_ne _ _ _ (show (67 : Nat) ≠ 72 by decide), pu_ne _ _ _ (show (67 : Nat) ≠ 71 by decide), pu_ne _ _ _ (show (67 : Nat) ≠ 70 by decide), pu_at, if_neg (by omega)]; exact m2
            · rw [pu_at, if_neg (by omega), pu_ne _ _ _ (show (67 : Nat) ≠ 72 by decide), pu_ne _ _ _ (show (67 : Nat) ≠ 71 by decide), pu_ne _ _ _ (show (67 : Nat) ≠ 70 by decide), pu_at, if_neg (by omega)]; exact m3
            · rw [pu_at, if_pos ⟨rfl, rfl⟩, Nat.add_sub_cancel]
            · refine (m5.pop).fr ?_ (fun i => ?_)
              · rw [pu_at, if_neg (by omega), pu_ne _ _ _ (show (67 : Nat) ≠ 72 by decide), pu_ne _ _ _ (show (67 : Nat) ≠ 71 by decide), pu_ne _ _ _ (show (67 : Nat) ≠ 70 by decide), Nat.add_sub_cancel]
              · rw [pu_ne _ _ _ (by decide), pu_ne _ _ _ (by decide), pu_ne _ _ _ (by decide), pu_ne _ _ _ (by decide), Nat.add_sub_cancel]
            · have k6 : mG w o (pu I1 67 21 (nI (st.length + 1 - 1))) := m6.fr (by rw [pu_ne _ _ _ (by decide)]) (fun i _ => ⟨by rw [pu_ne _ _ _ (by decide)], by rw [pu_ne _ _ _ (by decide)]⟩)
              exact (k6.app (k := 7) (m := 0) (Or.inr (Or.inr (Or.inl ⟨rfl, rfl⟩)))).fr (by rw [pu_ne _ _ _ (by decide)]) (fun i _ => ⟨by rw [pu_ne _ _ _ (by decide)], by rw [pu_ne _ _ _ (by decide)]⟩)
set_option maxHeartbeats 400000 in
set_option maxRecDepth 100000 in
theorem M_X12_close {l : Launch} {X : pX} {t g : Nat} {I : pHI} {J : pHJ} {Q : pQ} {w u0 u tt : Nat} {st0 : List Nat} {o0 : pP} (ht : tt ≤ 6) (hm : mQ w u0 st0 o0 u I) (hl : o0.length + st0.length ≤ 300) (hl2 : st0.length ≤ 100) (hw : w ≤ 1) (hq : ∀ I1, sMF w I I1 → (∀ k, k < 20 → I1 67 k = I 67 k) → mQ w u0 (clL tt st0) (o0 ++ clP tt st0) u I1 → Q none I1 J (pR t g)) : pM l X yX12_close mX12_close 1 [.ref 67, .int (nI tt)] pK pK I J (pR t g) Q := by
  refine pM_of rfl (fun h => by cases h) rfl pKM (Nat.le_of_ble_eq_true rfl) ?_
  exact L_X12_close ht hw hq st0 o0 I hl hl2 sMF.rf (fun _ _ => rfl) hm rfl rfl
set_option maxHeartbeats 400000 in
set_option maxRecDepth 100000 in
theorem L_X12_hasRelation {l : Launch} {X : pX} {t g : Nat} {I : pHI} {J : pHJ} {Q : pQ} {st0 : List Nat} (hm : mKs st0 I) (ho : okS st0) (hl2 : st0.length ≤ 100) (h1 : hRl st0 = true → Q (some (.int (nI 1))) I J (pR t g)) (h0 : ¬ hRl st0 = true → Q (some (.int (nI 0))) I J (pR t g)) : ∀ (st : List Nat), (∃ i, st0.drop i = st ∧ i + st.length = st0.length) → hRl st = hRl st0 → ∀ k : Int32, k = (if st.length = 0 then -1 else nI (st.length - 1)) → pE l X mX12_hasRelation 1 pK 7 [some (.ref 67), some (.int k)] [] pK I J (pR t g) Q := by
  intro st
  induction st with
  | nil =>
    intro hi e k hk
    subst hk
    rw [if_pos (show ([] : List Nat).length = 0 from rfl)]
    refine pE_iload_n dX12_hasRelation_7 rfl rfl ?_
    refine pE_if_lt (tgt := 41) dX12_hasRelation_8 (by decide) (fun h8 => ?_) (fun h8 => ?_)
    · refine pE_iload_n dX12_hasRelation_41 rfl rfl ?_
      refine pE_if_lt (tgt := 73) dX12_hasRelation_42 (by decide) (fun h42 => ?_) (fun h42 => ?_)
      · refine pE_iconst (v := nI 0) dX12_hasRelation_73 rfl ?_
        refine pE_zret dX12_hasRelation_74 rfl (by first | exact Or.inl nI_0 | exact Or.inr nI_1') rfl ?_
        refine h0 (fun z => ?_)
        rw [← e] at z
        cases z
      · exact absurd (show (-1 : Int32) < 0 by decide) h42
    · exact absurd (show (-1 : Int32) < 0 by decide) h8
  | cons c st ih =>
    intro hi e k hk
    subst hk
    rw [if_neg (by simp), List.length_cons, Nat.add_sub_cancel]
    obtain ⟨i, hi1, hi2⟩ := hi
    rw [List.length_cons] at hi2
    have hci : st0[i]? = some c := by have z := congrArg (fun y => y[0]?) hi1; simpa using z
    have hcm : c ∈ st0 := List.mem_of_getElem? hci
    have hc := ho c hcm
    have hcb := okS_b ho hcm
    have htb := tgt_b c
    have h76 : I 76 st.length = nI c := by have z := hm.2 i c hci; rw [show st0.length - 1 - i = st.length by omega] at z; exact z
    refine pE_iload_n dX12_hasRelation_7 rfl rfl ?_
    refine pE_if_lt (tgt := 41) dX12_hasRelation_8 (by decide) (fun h8 => ?_) (fun h8 => ?_)
    · exact absurd h8 (nI_pos (by omega))
    · refine pE_aload_n dX12_hasRelation_11 rfl rfl ?_
      refine pE_getR dX12_hasRelation_12 flX12_39 rfl (by first | assumption | rfl) (by first | assumption | rfl) ?_
      refine pE_iload_n dX12_hasRelation_15 rfl rfl ?_
      refine pE_ialoadN dX12_hasRelation_16 (by first | assumption | rfl) (by omega) (by omega) ?_
      rw [h76]
      refine pE_bipush (v := nI 20) dX12_hasRelation_17 rfl ?_
      refine pE_icmp_eq (tgt := 41) dX12_hasRelation_19 (by decide) (fun h19 => ?_) (fun h19 => ?_)
      · have g19 := nq_eq (by omega) (by omega) h19
        refine pE_iload_n dX12_hasRelation_41 rfl rfl ?_
        refine pE_if_lt (tgt := 73) dX12_hasRelation_42 (by decide) (fun h42 => ?_) (fun h42 => ?_)
        · exact absurd h42 (nI_pos (by omega))
        · refine pE_aload_n dX12_hasRelation_45 rfl rfl ?_
          refine pE_getR dX12_hasRelation_46 flX12_39 rfl (by first | assumption | rfl) (by first | assumption | rfl) ?_
          refine pE_iload_n dX12_hasRelation_49 rfl rfl ?_
          refine pE_ialoadN dX12_hasRelation_50 (by first | assumption | rfl) (by omega) (by omega) ?_
          rw [h76]
          refine pE_bipush (v := nI 20) dX12_hasRelation_51 rfl ?_
          refine pE_icmp_eq (tgt := 73) dX12_hasRelation_53 (by decide) (fun h53 => ?_) (fun h53 => ?_)
          · have g53 := nq_eq (by omega) (by omega) h53
            refine pE_iconst (v := nI 0) dX12_hasRelation_73 rfl ?_
            refine pE_zret dX12_hasRelation_74 rfl (by first | exact Or.inl nI_0 | exact Or.inr nI_1') rfl ?_
            first
            | (exfalso; omega)
            | (refine h1 ?_
               rw [← e, hRl, if_neg g53, if_neg (by omega)]
               simp [g66])
            | (refine h0 (fun z => ?_)
               rw [← e, hRl, if_pos (by omega)] at z
               cases z)
            | (refine h0 (fun z => ?_)
               rw [← e, hRl, if_neg (by omega), if_neg (by omega)] at z
               simp at z
               omega)
          · have g53 := nq_ne (by omega) (by omega) h53
            refine pE_aload_n dX12_hasRelation_56 rfl rfl ?_
            refine pE_getR dX12_hasRelation_57 flX12_39 rfl (by first | assumption | rfl) (by first | assumption | rfl) ?_
            refine pE_iload_n dX12_hasRelation_60 rfl rfl ?_
            refine pE_ialoadN dX12_hasRelation_61 (by first | assumption | rfl) (by omega) (by omega) ?_
            rw [h76]
            refine pE_callS (d' := 0) (as := [_]) dX12_hasRelation_62 lkX12_257 (cwX12_tight _ _) svX12_tight rfl rfl (Nat.le_of_ble_eq_true rfl) (by decide) pKK ?_
            refine M_X12_tight hc ?_
            refine pE_iconst (v := nI 4) dX12_hasRelation_65 rfl ?_
            refine pE_icmp_ne (tgt := 73) dX12_hasRelation_66 (by decide) (fun h66 => ?_) (fun h66 => ?_)
            · have g66 := nq_ne (by omega) (by omega) h66
              refine pE_iconst (v := nI 0) dX12_hasRelation_73 rfl ?_
              refine pE_zret dX12_hasRelation_74 rfl (by first | exact Or.inl nI_0 | exact Or.inr nI_1') rfl ?_
              first
              | (exfalso; omega)
              | (refine h1 ?_
                 rw [← e, hRl, if_neg g53, if_neg (by omega)]
                 simp [g66])
              | (refine h0 (fun z => ?_)
                 rw [← e, hRl, if_pos (by omega)] at z
                 cases z)
              | (refine h0 (fun z => ?_)
                 rw [← e, hRl, if_neg (by omega), if_neg (by omega)] at z
                 simp at z
                 omega)
            · have g66 := nq_eq (by omega) (by omega) h66
              refine pE_iconst (v := nI 1) dX12_hasRelation_69 rfl ?_
              refine pE_goto (tgt := 74) dX12_hasRelation_70 (by decide) ?_
              refine pE_zret dX12_hasRelation_74 rfl (by first | exact Or.inl nI_0 | exact Or.inr nI_1') rfl ?_
              first
              | (exfalso; omega)
              | (refine h1 ?_
                 rw [← e, hRl, if_neg g53, if_neg (by omega)]
                 simp [g66])
              | (refine h0 (fun z => ?_)
                 rw [← e, hRl, if_pos (by omega)] at z
                 cases z)
              | (refine h0 (fun z => ?_)
                 rw [← e, hRl, if_neg (by omega), if_neg (by omega)] at z
                 simp at z
                 omega)
      · have g19 := nq_ne (by omega) (by omega) h19
        refine pE_aload_n dX12_hasRelation_22 rfl rfl ?_
        refine pE_getR dX12_hasRelation_23 flX12_39 rfl (by first | assumption | rfl) (by first | assumption | rfl) ?_
        refine pE_iload_n dX12_hasRelation_26 rfl rfl ?_
        refine pE_ialoadN dX12_hasRelation_27 (by first | assumption | rfl) (by omega) (by omega) ?_
        rw [h76]
        refine pE_callS (d' := 0) (as := [_]) dX12_hasRelation_28 lkX12_257 (cwX12_tight _ _) svX12_tight rfl rfl (Nat.le_of_ble_eq_true rfl) (by decide) pKK ?_
        refine M_X12_tight hc ?_
        refine pE_iconst (v := nI 4) dX12_hasRelation_31 rfl ?_
        refine pE_icmp_le (tgt := 41) dX12_hasRelation_32 (by decide) (fun h32 => ?_) (fun h32 => ?_)
        · have g32 := nq_le (by omega) (by omega) h32
          refine pE_iload_n dX12_hasRelation_41 rfl rfl ?_
          refine pE_if_lt (tgt := 73) dX12_hasRelation_42 (by decide) (fun h42 => ?_) (fun h42 => ?_)
          · exact absurd h42 (nI_pos (by omega))
          · refine pE_aload_n dX12_hasRelation_45 rfl rfl ?_
            refine pE_getR dX12_hasRelation_46 flX12_39 rfl (by first | assumption | rfl) (by first | assumption | rfl) ?_
            refine pE_iload_n dX12_hasRelation_49 rfl rfl ?_
            refine pE_ialoadN dX12_hasRelation_50 (by first | assumption | rfl) (by omega) (by omega) ?_
            rw [h76]
            refine pE_bipush (v := nI 20) dX12_hasRelation_51 rfl ?_
            refine pE_icmp_eq (tgt := 73) dX12_hasRelation_53 (by decide) (fun h53 => ?_) (fun h53 => ?_)
            · have g53 := nq_eq (by omega) (by omega) h53
              refine pE_iconst (v := nI 0) dX12_hasRelation_73 rfl ?_
              refine pE_zret dX12_hasRelation_74 rfl (by first | exact Or.inl nI_0 | exact Or.inr nI_1') rfl ?_
              first
              | (exfalso; omega)
              | (refine h1 ?_
                 rw [← e, hRl, if_neg g53, if_neg (by omega)]
                 simp [g66])
              | (refine h0 (fun z => ?_)
                 rw [← e, hRl, if_pos (by omega)] at z
                 cases z)
              | (refine h0 (fun z => ?_)
                 rw [← e, hRl, if_neg (by omega), if_neg (by omega)] at z
                 simp at z
                 omega)
            · have g53 := nq_ne (by omega) (by omega) h53
              refine pE_aload_n dX12_hasRelation_56 rfl rfl ?_
              refine pE_getR dX12_hasRelation_57 flX12_39 rfl (by first | assumption | rfl) (by first | assumption | rfl) ?_
              refine pE_iload_n dX12_hasRelation_60 rfl rfl ?_
              refine pE_ialoadN dX12_hasRelation_61 (by first | assumption | rfl) (by omega) (by omega) ?_
              rw [h76]
              refine pE_callS (d' := 0) (as := [_]) dX12_hasRelation_62 lkX12_257 (cwX12_tight _ _) svX12_tight rfl rfl (Nat.le_of_ble_eq_true rfl) (by decide) pKK ?_
              refine M_X12_tight hc ?_
              refine pE_iconst (v := nI 4) dX12_hasRelation_65 rfl ?_
              refine pE_icmp_ne (tgt := 73) dX12_hasRelation_66 (by decide) (fun h66 => ?_) (fun h66 => ?_)
              · have g66 := nq_ne (by omega) (by omega) h66
                refine pE_iconst (v := nI 0) dX12_hasRelation_73 rfl ?_
                refine pE_zret dX12_hasRelation_74 rfl (by first | exact Or.inl nI_0 | exact Or.inr nI_1') rfl ?_
                first
                | (exfalso; omega)
                | (refine h1 ?_
                   rw [← e, hRl, if_neg g53, if_neg (by omega)]
                   simp [g66])
                | (refine h0 (fun z => ?_)
                   rw [← e, hRl, if_pos (by omega)] at z
                   cases z)
                | (refine h0 (fun z => ?_)
                   rw [← e, hRl, if_neg (by omega), if_neg (by omega)] at z
                   simp at z
                   omega)
              · have g66 := nq_eq (by omega) (by omega) h66
                refine pE_iconst (v := nI 1) dX12_hasRelation_69 rfl ?_
                refine pE_goto (tgt := 74) dX12_hasRelation_70 (by decide) ?_
                refine pE_zret dX12_hasRelation_74 rfl (by first | exact Or.inl nI_0 | exact Or.inr nI_1') rfl ?_
                first
                | (exfalso; omega)
                | (refine h1 ?_
                   rw [← e, hRl, if_neg g53, if_neg (by omega)]
                   simp [g66])
                | (refine h0 (fun z => ?_)
                   rw [← e, hRl, if_pos (by omega)] at z
                   cases z)
                | (refine h0 (fun z => ?_)
                   rw [← e, hRl, if_neg (by omega), if_neg (by omega)] at z
                   simp at z
                   omega)
        · have g32 := nq_nle (by omega) (by omega) h32
          refine pE_iinc (c0 := -1) (lc' := [_, some (.int _)]) dX12_hasRelation_35 rfl rfl rfl rfl ?_
          refine pE_goto (tgt := 7) dX12_hasRelation_38 (by decide) ?_
          refine ih ⟨i + 1, by have z := congrArg List.tail hi1; simpa using z, by omega⟩ (by rw [← e, hRl, if_neg (by omega), if_pos (by omega)]) _ ?_
          by_cases z : st.length = 0
          · rw [if_pos z, z]; rfl
          · rw [if_neg z]
            have := nI_dec (st.length - 1)
            rw [show st.length - 1 + 1 = st.length by omega] at this
            exact this
set_option maxHeartbeats 400000 in
set_option maxRecDepth 100000 in
theorem M_X12_hasRelation {l : Launch} {X : pX} {t g : Nat} {I : pHI} {J : pHJ} {Q : pQ} {st0 : List Nat} (hm : mKs st0 I) (ho : okS st0) (hl2 : st0.length ≤ 100) (h1 : hRl st0 = true → Q (some (.int (nI 1))) I J (pR t g)) (h0 : ¬ hRl st0 = true → Q (some (.int (nI 0))) I J (pR t g)) : pM l X yX12_hasRelation mX12_hasRelation 1 [.ref 67] pK pK I J (pR t g) Q := by
  refine pM_of rfl (fun h => by cases h) rfl pKM (Nat.le_of_ble_eq_true rfl) ?_
  refine pE_aload_n dX12_hasRelation_0 rfl rfl ?_
  refine pE_getI dX12_hasRelation_1 flX12_254 rfl (Or.inl rfl) (by first | assumption | rfl) ?_
  rw [hm.1]
  refine pE_iconst (v := nI 1) dX12_hasRelation_4 rfl ?_
  refine pE_isub dX12_hasRelation_5 ?_
  refine pE_istore_n (lc' := [_, some (.int _)]) dX12_hasRelation_6 rfl (Nat.le_of_ble_eq_true rfl) rfl rfl ?_
  refine L_X12_hasRelation hm ho hl2 h1 h0 st0 ⟨0, rfl, by omega⟩ rfl _ ?_
  by_cases z : st0.length = 0
  · rw [if_pos z, z]; rfl
  · rw [if_neg z, nI_subN (by omega)]
theorem mNt_y {c : Nat} {st : List Nat} (h : c = 20 ∨ tgt c < 4) : mNt (c :: st) = true := by
  rw [mNt]
  rcases h with h | h
  · rw [h]; rfl
  · rw [decide_eq_true h, Bool.or_true]
theorem mNt_n {c : Nat} {st : List Nat} (h : c ≠ 20) (h2 : 4 ≤ tgt c) : ¬ mNt (c :: st) = true := by
  rw [mNt, decide_eq_false (by omega), Bool.or_false, beq_iff_eq]
  exact h
set_option maxHeartbeats 400000 in
set_option maxRecDepth 100000 in
theorem M_X12_mayNot {l : Launch} {X : pX} {t g : Nat} {I : pHI} {J : pHJ} {Q : pQ} {st0 : List Nat} (hm : mKs st0 I) (ho : okS st0) (hl2 : st0.length ≤ 100) (h1 : mNt st0 = true → Q (some (.int (nI 1))) I J (pR t g)) (h0 : ¬ mNt st0 = true → Q (some (.int (nI 0))) I J (pR t g)) : pM l X yX12_mayNot mX12_mayNot 1 [.ref 67] pK pK I J (pR t g) Q := by
  refine pM_of rfl (fun h => by cases h) rfl pKM (Nat.le_of_ble_eq_true rfl) ?_
  cases st0 with
  | nil =>
    refine pE_aload_n dX12_mayNot_0 rfl rfl ?_
    refine pE_getI dX12_mayNot_1 flX12_254 rfl (Or.inl rfl) (by first | assumption | rfl) ?_
    rw [hm.1]
    refine pE_if_eq (tgt := 41) dX12_mayNot_4 (by decide) (fun h4 => ?_) (fun h4 => ?_)
    · have g4 := nq_eq0 (by omega) h4
      refine pE_iconst (v := nI 1) dX12_mayNot_41 rfl ?_
      refine pE_goto (tgt := 46) dX12_mayNot_42 (by decide) ?_
      refine pE_zret dX12_mayNot_46 rfl (by first | exact Or.inl nI_0 | exact Or.inr nI_1') rfl ?_
      exact h1 rfl
    · have g4 := nq_ne0 (by omega) h4
      exact absurd g4 (by simp)
  | cons c st =>
    have hc := ho c List.mem_cons_self
    have hcb := okS_b ho List.mem_cons_self
    have htb := tgt_b c
    have h21 : I 67 21 = nI (st.length + 1) := hm.1
    rw [List.length_cons] at hl2
    have h76 : I 76 (st.length + 1 - 1) = nI c := by rw [Nat.add_sub_cancel]; exact hm.top
    refine pE_aload_n dX12_mayNot_0 rfl rfl ?_
    refine pE_getI dX12_mayNot_1 flX12_254 rfl (Or.inl rfl) (by first | assumption | rfl) ?_
    rw [h21]
    refine pE_if_eq (tgt := 41) dX12_mayNot_4 (by decide) (fun h4 => ?_) (fun h4 => ?_)
    · have g4 := nq_eq0 (by omega) h4
      omega
    · have g4 := nq_ne0 (by omega) h4
      refine pE_aload_n dX12_mayNot_7 rfl rfl ?_
      refine pE_getR dX12_mayNot_8 flX12_39 rfl (by first | assumption | rfl) (by first | assumption | rfl) ?_
      refine pE_aload_n dX12_mayNot_11 rfl rfl ?_
      refine pE_getI dX12_mayNot_12 flX12_254 rfl (Or.inl rfl) (by first | assumption | rfl) ?_
      rw [h21]
      refine pE_iconst (v := nI 1) dX12_mayNot_15 rfl ?_
      refine pE_isubN dX12_mayNot_16 (by omega) ?_
      refine pE_ialoadN dX12_mayNot_17 (by first | assumption | rfl) (by omega) (by omega) ?_
      rw [h76]
      refine pE_bipush (v := nI 20) dX12_mayNot_18 rfl ?_
      refine pE_icmp_eq (tgt := 41) dX12_mayNot_20 (by decide) (fun h20 => ?_) (fun h20 => ?_)
      · have g20 := nq_eq (by omega) (by omega) h20
        refine pE_iconst (v := nI 1) dX12_mayNot_41 rfl ?_
        refine pE_goto (tgt := 46) dX12_mayNot_42 (by decide) ?_
        refine pE_zret dX12_mayNot_46 rfl (by first | exact Or.inl nI_0 | exact Or.inr nI_1') rfl ?_
        first
        | exact h1 (mNt_y (Or.inl g20))
        | exact h1 (mNt_y (Or.inr g38))
        | exact h0 (mNt_n g20 (by omega))
      · have g20 := nq_ne (by omega) (by omega) h20
        refine pE_aload_n dX12_mayNot_23 rfl rfl ?_
        refine pE_getR dX12_mayNot_24 flX12_39 rfl (by first | assumption | rfl) (by first | assumption | rfl) ?_
        refine pE_aload_n dX12_mayNot_27 rfl rfl ?_
        refine pE_getI dX12_mayNot_28 flX12_254 rfl (Or.inl rfl) (by first | assumption | rfl) ?_
        rw [h21]
        refine pE_iconst (v := nI 1) dX12_mayNot_31 rfl ?_
        refine pE_isubN dX12_mayNot_32 (by omega) ?_
        refine pE_ialoadN dX12_mayNot_33 (by first | assumption | rfl) (by omega) (by omega) ?_
        rw [h76]
        refine pE_callS (d' := 0) (as := [_]) dX12_mayNot_34 lkX12_257 (cwX12_tight _ _) svX12_tight rfl rfl (Nat.le_of_ble_eq_true rfl) (by decide) pKK ?_
        refine M_X12_tight hc ?_
        refine pE_iconst (v := nI 4) dX12_mayNot_37 rfl ?_
        refine pE_icmp_ge (tgt := 45) dX12_mayNot_38 (by decide) (fun h38 => ?_) (fun h38 => ?_)
        · have g38 := nq_le (by omega) (by omega) h38
          refine pE_iconst (v := nI 0) dX12_mayNot_45 rfl ?_
          refine pE_zret dX12_mayNot_46 rfl (by first | exact Or.inl nI_0 | exact Or.inr nI_1') rfl ?_
          first
          | exact h1 (mNt_y (Or.inl g20))
          | exact h1 (mNt_y (Or.inr g38))
          | exact h0 (mNt_n g20 (by omega))
        · have g38 := nq_nle (by omega) (by omega) h38
          refine pE_iconst (v := nI 1) dX12_mayNot_41 rfl ?_
          refine pE_goto (tgt := 46) dX12_mayNot_42 (by decide) ?_
          refine pE_zret dX12_mayNot_46 rfl (by first | exact Or.inl nI_0 | exact Or.inr nI_1') rfl ?_
          first
          | exact h1 (mNt_y (Or.inl g20))
          | exact h1 (mNt_y (Or.inr g38))
          | exact h0 (mNt_n g20 (by omega))
theorem hBr_in : ∀ st : List Nat, hBr st = true ↔ 20 ∈ st
  | [] => by simp [hBr]
  | c :: st => by
    rw [hBr, Bool.or_eq_true, beq_iff_eq, hBr_in st, List.mem_cons]
    exact ⟨fun h => h.imp Eq.symm id, fun h => h.imp Eq.symm id⟩
set_option maxHeartbeats 400000 in
set_option maxRecDepth 100000 in
theorem L_X12_hasBracket {l : Launch} {X : pX} {t g : Nat} {I : pHI} {J : pHJ} {Q : pQ} {st0 : List Nat} (hm : mKs st0 I) (ho : okS st0) (hl2 : st0.length ≤ 100) (h1 : hBr st0 = true → Q (some (.int (nI 1))) I J (pR t g)) (h0 : ¬ hBr st0 = true → Q (some (.int (nI 0))) I J (pR t g)) : ∀ (fu : Nat) (j : Nat) (b : Int32), st0.length - j < fu → (j ≤ st0.length) → ((b = nI 1 ∧ ∃ i c, st0.length - 1 - i < j ∧ st0[i]? = some c ∧ c = 20) ∨ (b = nI 0 ∧ ∀ i c, i < st0.length → st0.length - 1 - i < j → st0[i]? = some c → c ≠ 20)) → pE l X mX12_hasBracket 0 pK 4 [some (.ref 67), some (.int b), some (.int (nI j))] [] pK I J (pR t g) Q := by
  intro fu
  induction fu with
  | zero => intro j b hn; exact absurd hn (Nat.not_lt_zero _)
  | succ fu ih =>
    intro j b hn hj hb
    rcases hb with ⟨rfl, i0, c0, b1, b2, b3⟩ | ⟨rfl, b1⟩
    · refine pE_iload_n dX12_hasBracket_4 rfl rfl ?_
      refine pE_aload_n dX12_hasBracket_5 rfl rfl ?_
      refine pE_getI dX12_hasBracket_6 flX12_254 rfl (Or.inl rfl) (by first | assumption | rfl) ?_
      rw [hm.1]
      refine pE_icmp_ge (tgt := 39) dX12_hasBracket_9 (by decide) (fun h9 => ?_) (fun h9 => ?_)
      · have g9 := nq_le (by omega) (by omega) h9
        refine pE_iload_n dX12_hasBracket_39 rfl rfl ?_
        refine pE_zret dX12_hasBracket_40 rfl (by first | exact Or.inl nI_0 | exact Or.inr nI_1') rfl ?_
        exact h1 ((hBr_in st0).mpr (by rw [← b3]; exact List.mem_of_getElem? b2))
      · have g9 := nq_nle (by omega) (by omega) h9
        
        refine pE_iload_n dX12_hasBracket_12 rfl rfl ?_
        refine pE_if_ne (tgt := 27) dX12_hasBracket_13 (by decide) (fun h13 => ?_) (fun h13 => ?_)
        · have g13 := nq_ne0 (by omega) h13
          refine pE_iconst (v := nI 1) dX12_hasBracket_27 rfl ?_
          refine pE_goto (tgt := 32) dX12_hasBracket_28 (by decide) ?_
          refine pE_istore_n (lc' := [_, some (.int _), _]) dX12_hasBracket_32 rfl (Nat.le_of_ble_eq_true rfl) rfl rfl ?_
          refine pE_iincN (c0 := 1) (lc' := [_, _, some (.int _)]) dX12_hasBracket_33 rfl rfl rfl rfl ?_
          refine pE_goto (tgt := 4) dX12_hasBracket_36 (by decide) ?_
          exact ih (j + 1) _ (by omega) (by omega) (Or.inl ⟨rfl, i0, c0, by omega, b2, b3⟩)
        · have g13 := nq_eq0 (by omega) h13
          exact absurd g13 (by omega)
    · refine pE_iload_n dX12_hasBracket_4 rfl rfl ?_
      refine pE_aload_n dX12_hasBracket_5 rfl rfl ?_
      refine pE_getI dX12_hasBracket_6 flX12_254 rfl (Or.inl rfl) (by first | assumption | rfl) ?_
      rw [hm.1]
      refine pE_icmp_ge (tgt := 39) dX12_hasBracket_9 (by decide) (fun h9 => ?_) (fun h9 => ?_)
      · have g9 := nq_le (by omega) (by omega) h9
        refine pE_iload_n dX12_hasBracket_39 rfl rfl ?_
        refine pE_zret dX12_hasBracket_40 rfl (by first | exact Or.inl nI_0 | exact Or.inr nI_1') rfl ?_
        refine h0 (fun z => ?_)
        obtain ⟨i, hi, e⟩ := List.mem_iff_getElem.mp ((hBr_in st0).mp z)
        exact b1 i 20 hi (by omega) (by rw [List.getElem?_eq_getElem hi, e]) rfl
      · have g9 := nq_nle (by omega) (by omega) h9
        refine pE_iload_n dX12_hasBracket_12 rfl rfl ?_
        refine pE_if_ne (tgt := 27) dX12_hasBracket_13 (by decide) (fun h13 => ?_) (fun h13 => ?_)
        · have g13 := nq_ne0 (by omega) h13
          omega
        · have g13 := nq_eq0 (by omega) h13
          obtain ⟨c, hc⟩ : ∃ c, st0[st0.length - 1 - j]? = some c := ⟨_, List.getElem?_eq_getElem (by omega)⟩
          have h76 : I 76 j = nI c := by have z := hm.2 (st0.length - 1 - j) c hc; rw [show st0.length - 1 - (st0.length - 1 - j) = j by omega] at z; exact z
          have hcm : c ∈ st0 := List.mem_of_getElem? hc
          have hcb := okS_b ho hcm
          refine pE_aload_n dX12_hasBracket_16 rfl rfl ?_
          refine pE_getR dX12_hasBracket_17 flX12_39 rfl (by first | assumption | rfl) (by first | assumption | rfl) ?_
          refine pE_iload_n dX12_hasBracket_20 rfl rfl ?_
          refine pE_ialoadN dX12_hasBracket_21 (by first | assumption | rfl) (by omega) (by omega) ?_
          rw [h76]
          refine pE_bipush (v := nI 20) dX12_hasBracket_22 rfl ?_
          refine pE_icmp_ne (tgt := 31) dX12_hasBracket_24 (by decide) (fun h24 => ?_) (fun h24 => ?_)
          · have g24 := nq_ne (by omega) (by omega) h24
            refine pE_iconst (v := nI 0) dX12_hasBracket_31 rfl ?_
            refine pE_istore_n (lc' := [_, some (.int _), _]) dX12_hasBracket_32 rfl (Nat.le_of_ble_eq_true rfl) rfl rfl ?_
            refine pE_iincN (c0 := 1) (lc' := [_, _, some (.int _)]) dX12_hasBracket_33 rfl rfl rfl rfl ?_
            refine pE_goto (tgt := 4) dX12_hasBracket_36 (by decide) ?_
            first
            | exact ih (j + 1) _ (by omega) (by omega) (Or.inl ⟨rfl, st0.length - 1 - j, c, by omega, hc, g24⟩)
            | (refine ih (j + 1) _ (by omega) (by omega) (Or.inr ⟨rfl, fun i c' hi hij e => ?_⟩)
               by_cases z : st0.length - 1 - i = j
               · rw [show i = st0.length - 1 - j by omega, hc] at e
                 cases e
                 exact g24
               · exact b1 i c' hi (by omega) e)
          · have g24 := nq_eq (by omega) (by omega) h24
            refine pE_iconst (v := nI 1) dX12_hasBracket_27 rfl ?_
            refine pE_goto (tgt := 32) dX12_hasBracket_28 (by decide) ?_
            refine pE_istore_n (lc' := [_, some (.int _), _]) dX12_hasBracket_32 rfl (Nat.le_of_ble_eq_true rfl) rfl rfl ?_
            refine pE_iincN (c0 := 1) (lc' := [_, _, some (.int _)]) dX12_hasBracket_33 rfl rfl rfl rfl ?_
            refine pE_goto (tgt := 4) dX12_hasBracket_36 (by decide) ?_
            first
            | exact ih (j + 1) _ (by omega) (by omega) (Or.inl ⟨rfl, st0.length - 1 - j, c, by omega, hc, g24⟩)
            | (refine ih (j + 1) _ (by omega) (by omega) (Or.inr ⟨rfl, fun i c' hi hij e => ?_⟩)
               by_cases z : st0.length - 1 - i = j
               · rw [show i = st0.length - 1 - j by omega, hc] at e
                 cases e
                 exact g24
               · exact b1 i c' hi (by omega) e)
set_option maxHeartbeats 400000 in
set_option maxRecDepth 100000 in
theorem M_X12_hasBracket {l : Launch} {X : pX} {t g : Nat} {I : pHI} {J : pHJ} {Q : pQ} {st0 : List Nat} (hm : mKs st0 I) (ho : okS st0) (hl2 : st0.length ≤ 100) (h1 : hBr st0 = true → Q (some (.int (nI 1))) I J (pR t g)) (h0 : ¬ hBr st0 = true → Q (some (.int (nI 0))) I J (pR t g)) : pM l X yX12_hasBracket mX12_hasBracket 0 [.ref 67] pK pK I J (pR t g) Q := by
  refine pM_of rfl (fun h => by cases h) rfl pKM (Nat.le_of_ble_eq_true rfl) ?_
  refine pE_iconst (v := nI 0) dX12_hasBracket_0 rfl ?_
  refine pE_istore_n (lc' := [_, some (.int _), _]) dX12_hasBracket_1 rfl (Nat.le_of_ble_eq_true rfl) rfl rfl ?_
  refine pE_iconst (v := nI 0) dX12_hasBracket_2 rfl ?_
  refine pE_istore_n (lc' := [_, _, some (.int _)]) dX12_hasBracket_3 rfl (Nat.le_of_ble_eq_true rfl) rfl rfl ?_
  exact L_X12_hasBracket hm ho hl2 h1 h0 (st0.length + 1) 0 _ (by omega) (by omega) (Or.inr ⟨rfl, fun i c _ hi _ => absurd hi (by omega)⟩)
def mvJ (k : Nat) : Int32 := if k = 0 then -1 else nI (k - 1)
set_option maxHeartbeats 400000 in
set_option maxRecDepth 100000 in
theorem M_X12_asked {l : Launch} {X : pX} {t g : Nat} {I : pHI} {J : pHJ} {Q : pQ} {n p : Nat} {B : Nat → Nat} (hr : mR0 B n p I J) (hq : Q (some (.int (mvJ (mesN B n p)))) I J (pR t g)) : pM l X yX12_asked mX12_asked 0 [.ref 67] pK pK I J (pR t g) Q := by
  obtain ⟨e1, e2, hp, hk⟩ := hr
  have hm := mKd_b (B := B) hp
  refine pM_of rfl (fun h => by cases h) rfl pKM (Nat.le_of_ble_eq_true rfl) ?_
  refine pE_aload_n dX12_asked_0 rfl rfl ?_
  refine pE_getI dX12_asked_1 flX12_169 rfl (Or.inl rfl) (by first | assumption | rfl) ?_
  rw [hk.1]
  refine pE_iconst (v := nI 1) dX12_asked_4 rfl ?_
  refine pE_icmp_eq (tgt := 10) dX12_asked_5 (by decide) (fun h5 => ?_) (fun h5 => ?_)
  · have g5 := nq_eq (by omega) (by omega) h5
    have hk1 := g5
    refine pE_aload_n dX12_asked_10 rfl rfl ?_
    refine pE_getJ dX12_asked_11 flX12_162 rfl (by first | assumption | rfl) ?_
    refine pE_ldc2 dX12_asked_14 kcX12_185 ?_
    refine pE_lcmp dX12_asked_17 ?_
    refine pE_if_ne (tgt := 23) dX12_asked_18 (by decide) (fun h18 => ?_) (fun h18 => ?_)
    · have w1 : ¬ tkWb B n p 1 = true := fun z => h18 ((lg_cmp_eq _ _).mpr (((hk.word (show 1 ∈ ownI by decide) hp hk1).mpr z).trans mwk.1))
      refine pE_aload_n dX12_asked_23 rfl rfl ?_
      refine pE_getJ dX12_asked_24 flX12_162 rfl (by first | assumption | rfl) ?_
      refine pE_ldc2 dX12_asked_27 kcX12_195 ?_
      refine pE_lcmp dX12_asked_30 ?_
      refine pE_if_ne (tgt := 36) dX12_asked_31 (by decide) (fun h31 => ?_) (fun h31 => ?_)
      · have w7 : ¬ tkWb B n p 7 = true := fun z => h31 ((lg_cmp_eq _ _).mpr (((hk.word (show 7 ∈ ownI by decide) hp hk1).mpr z).trans mwk.2.2.2.2.2.1))
        refine pE_aload_n dX12_asked_36 rfl rfl ?_
        refine pE_getJ dX12_asked_37 flX12_162 rfl (by first | assumption | rfl) ?_
        refine pE_ldc2 dX12_asked_40 kcX12_207 ?_
        refine pE_lcmp dX12_asked_43 ?_
        refine pE_if_ne (tgt := 49) dX12_asked_44 (by decide) (fun h44 => ?_) (fun h44 => ?_)
        · have w12 : ¬ tkWb B n p 12 = true := fun z => h44 ((lg_cmp_eq _ _).mpr (((hk.word (show 12 ∈ ownI by decide) hp hk1).mpr z).trans mwk.2.2.2.2.2.2.2.2.2.2.1))
          refine pE_aload_n dX12_asked_49 rfl rfl ?_
          refine pE_getJ dX12_asked_50 flX12_162 rfl (by first | assumption | rfl) ?_
          refine pE_ldc2 dX12_asked_53 kcX12_209 ?_
          refine pE_lcmp dX12_asked_56 ?_
          refine pE_if_ne (tgt := 62) dX12_asked_57 (by decide) (fun h57 => ?_) (fun h57 => ?_)
          · have w13 : ¬ tkWb B n p 13 = true := fun z => h57 ((lg_cmp_eq _ _).mpr (((hk.word (show 13 ∈ ownI by decide) hp hk1).mpr z).trans mwk.2.2.2.2.2.2.2.2.2.2.2.1))
            refine pE_aload_n dX12_asked_62 rfl rfl ?_
            refine pE_getJ dX12_asked_63 flX12_162 rfl (by first | assumption | rfl) ?_
            refine pE_ldc2 dX12_asked_66 kcX12_211 ?_
            refine pE_lcmp dX12_asked_69 ?_
            refine pE_if_ne (tgt := 75) dX12_asked_70 (by decide) (fun h70 => ?_) (fun h70 => ?_)
            · have w14 : ¬ tkWb B n p 14 = true := fun z => h70 ((lg_cmp_eq _ _).mpr (((hk.word (show 14 ∈ ownI by decide) hp hk1).mpr z).trans mwk.2.2.2.2.2.2.2.2.2.2.2.2.1))
              refine pE_aload_n dX12_asked_75 rfl rfl ?_
              refine pE_getJ dX12_asked_76 flX12_162 rfl (by first | assumption | rfl) ?_
              refine pE_ldc2 dX12_asked_79 kcX12_187 ?_
              refine pE_lcmp dX12_asked_82 ?_
              refine pE_if_ne (tgt := 90) dX12_asked_83 (by decide) (fun h83 => ?_) (fun h83 => ?_)
              · have w2 : ¬ tkWb B n p 2 = true := fun z => h83 ((lg_cmp_eq _ _).mpr (((hk.word (show 2 ∈ ownI by decide) hp hk1).mpr z).trans mwk.2.1))
                refine pE_iconst (v := -1) dX12_asked_90 rfl ?_
                refine pE_iret dX12_asked_91 rfl rfl ?_
                first
                | (have w2 : tkWb B n p 2 = true := (hk.word (show 2 ∈ ownI by decide) hp hk1).mp (((lg_cmp_eq _ _).mp h83).trans mwk.2.1.symm)
                   have e : mesN B n p = 6 := by
                     unfold mesN
                     rw [if_neg w1, if_neg w7, if_neg w12, if_neg w13, if_neg w14, if_pos w2]
                   rw [e] at hq
                   exact hq)
                | (have e : mesN B n p = 0 := by
                     unfold mesN
                     rw [if_neg w1, if_neg w7, if_neg w12, if_neg w13, if_neg w14, if_neg w2]
                   rw [e] at hq
                   exact hq)
              · refine pE_iconst (v := nI 5) dX12_asked_86 rfl ?_
                refine pE_goto (tgt := 91) dX12_asked_87 (by decide) ?_
                refine pE_iret dX12_asked_91 rfl rfl ?_
                first
                | (have w2 : tkWb B n p 2 = true := (hk.word (show 2 ∈ ownI by decide) hp hk1).mp (((lg_cmp_eq _ _).mp h83).trans mwk.2.1.symm)
                   have e : mesN B n p = 6 := by
                     unfold mesN
                     rw [if_neg w1, if_neg w7, if_neg w12, if_neg w13, if_neg w14, if_pos w2]
                   rw [e] at hq
                   exact hq)
                | (have e : mesN B n p = 0 := by
                     unfold mesN
                     rw [if_neg w1, if_neg w7, if_neg w12, if_neg w13, if_neg w14, if_neg w2]
                   rw [e] at hq
                   exact hq)
            · refine pE_iconst (v := nI 4) dX12_asked_73 rfl ?_
              refine pE_iret dX12_asked_74 rfl rfl ?_
              have w14 : tkWb B n p 14 = true := (hk.word (show 14 ∈ ownI by decide) hp hk1).mp (((lg_cmp_eq _ _).mp h70).trans mwk.2.2.2.2.2.2.2.2.2.2.2.2.1.symm)
              have e : mesN B n p = 5 := by
                unfold mesN
                rw [if_neg w1, if_neg w7, if_neg w12, if_neg w13, if_pos w14]
              rw [e] at hq
              exact hq
          · refine pE_iconst (v := nI 3) dX12_asked_60 rfl ?_
            refine pE_iret dX12_asked_61 rfl rfl ?_
            have w13 : tkWb B n p 13 = true := (hk.word (show 13 ∈ ownI by decide) hp hk1).mp (((lg_cmp_eq _ _).mp h57).trans mwk.2.2.2.2.2.2.2.2.2.2.2.1.symm)
            have e : mesN B n p = 4 := by
              unfold mesN
              rw [if_neg w1, if_neg w7, if_neg w12, if_pos w13]
            rw [e] at hq
            exact hq
        · refine pE_iconst (v := nI 2) dX12_asked_47 rfl ?_
          refine pE_iret dX12_asked_48 rfl rfl ?_
          have w12 : tkWb B n p 12 = true := (hk.word (show 12 ∈ ownI by decide) hp hk1).mp (((lg_cmp_eq _ _).mp h44).trans mwk.2.2.2.2.2.2.2.2.2.2.1.symm)
          have e : mesN B n p = 3 := by
            unfold mesN
            rw [if_neg w1, if_neg w7, if_pos w12]
          rw [e] at hq
          exact hq
      · refine pE_iconst (v := nI 1) dX12_asked_34 rfl ?_
        refine pE_iret dX12_asked_35 rfl rfl ?_
        have w7 : tkWb B n p 7 = true := (hk.word (show 7 ∈ ownI by decide) hp hk1).mp (((lg_cmp_eq _ _).mp h31).trans mwk.2.2.2.2.2.1.symm)
        have e : mesN B n p = 2 := by
          unfold mesN
          rw [if_neg w1, if_pos w7]
        rw [e] at hq
        exact hq
    · refine pE_iconst (v := nI 0) dX12_asked_21 rfl ?_
      refine pE_iret dX12_asked_22 rfl rfl ?_
      have w1 : tkWb B n p 1 = true := (hk.word (show 1 ∈ ownI by decide) hp hk1).mp (((lg_cmp_eq _ _).mp h18).trans mwk.1.symm)
      have e : mesN B n p = 1 := by
        unfold mesN
        rw [if_pos w1]
      rw [e] at hq
      exact hq
  · have g5 := nq_ne (by omega) (by omega) h5
    have hnw : ∀ i, tkWb B n p i = false := fun i => by
      rw [Bool.eq_false_iff]
      exact fun z => g5 (hm.2.2.1.mpr (tkWb_k z))
    refine pE_iconst (v := -1) dX12_asked_8 rfl ?_
    refine pE_iret dX12_asked_9 rfl rfl ?_
    have e : mesN B n p = 0 := by
      unfold mesN
      simp only [hnw, Bool.false_eq_true, if_false]
    rw [e] at hq
    exact hq
set_option maxHeartbeats 400000 in
set_option maxRecDepth 100000 in
theorem M_X12_isFull {l : Launch} {X : pX} {t g : Nat} {I : pHI} {J : pHJ} {Q : pQ} {u0 u : Nat} (h22 : I 67 22 = nI (u0 + u)) (h24 : I 67 24 = nI u) (hu0 : u0 ≤ 30) (hu : u ≤ 30) (h1 : 30 ≤ u → Q (some (.int (nI 1))) I J (pR t g)) (h0 : ¬ 30 ≤ u → Q (some (.int (nI 0))) I J (pR t g)) : pM l X yX12_isFull mX12_isFull 0 [.ref 67] pK pK I J (pR t g) Q := by
  refine pM_of rfl (fun h => by cases h) rfl pKM (Nat.le_of_ble_eq_true rfl) ?_
  refine pE_aload_n dX12_isFull_0 rfl rfl ?_
  refine pE_getI dX12_isFull_1 flX12_267 rfl (Or.inl rfl) (by first | assumption | rfl) ?_
  rw [h22]
  refine pE_bipush (v := nI 60) dX12_isFull_4 rfl ?_
  refine pE_icmp_eq (tgt := 18) dX12_isFull_6 (by decide) (fun h6 => ?_) (fun h6 => ?_)
  · have g6 := nq_eq (by omega) (by omega) h6
    refine pE_iconst (v := nI 1) dX12_isFull_18 rfl ?_
    refine pE_goto (tgt := 23) dX12_isFull_19 (by decide) ?_
    refine pE_zret dX12_isFull_23 rfl (by first | exact Or.inl nI_0 | exact Or.inr nI_1') rfl ?_
    first | exact h1 (by omega) | exact h0 (by omega)
  · have g6 := nq_ne (by omega) (by omega) h6
    refine pE_aload_n dX12_isFull_9 rfl rfl ?_
    refine pE_getI dX12_isFull_10 flX12_270 rfl (Or.inl rfl) (by first | assumption | rfl) ?_
    rw [h24]
    refine pE_bipush (v := nI 30) dX12_isFull_13 rfl ?_
    refine pE_icmp_ne (tgt := 22) dX12_isFull_15 (by decide) (fun h15 => ?_) (fun h15 => ?_)
    · have g15 := nq_ne (by omega) (by omega) h15
      refine pE_iconst (v := nI 0) dX12_isFull_22 rfl ?_
      refine pE_zret dX12_isFull_23 rfl (by first | exact Or.inl nI_0 | exact Or.inr nI_1') rfl ?_
      first | exact h1 (by omega) | exact h0 (by omega)
    · have g15 := nq_eq (by omega) (by omega) h15
      refine pE_iconst (v := nI 1) dX12_isFull_18 rfl ?_
      refine pE_goto (tgt := 23) dX12_isFull_19 (by decide) ?_
      refine pE_zret dX12_isFull_23 rfl (by first | exact Or.inl nI_0 | exact Or.inr nI_1') rfl ?_
      first | exact h1 (by omega) | exact h0 (by omega)
set_option maxHeartbeats 400000 in
set_option maxRecDepth 100000 in
theorem M_X12_countUnit {l : Launch} {X : pX} {t g : Nat} {I : pHI} {J : pHJ} {Q : pQ} {u0 u : Nat} (h22 : I 67 22 = nI u0) (h24 : I 67 24 = nI u) (hq : Q none (pu (pu I 67 22 (nI (u0 + 1))) 67 24 (nI (u + 1))) J (pR t g)) : pM l X yX12_countUnit mX12_countUnit 0 [.ref 67] pK pK I J (pR t g) Q := by
  refine pM_of rfl (fun h => by cases h) rfl pKM (Nat.le_of_ble_eq_true rfl) ?_
  refine pE_aload_n dX12_countUnit_0 rfl rfl ?_
  refine pE_dupR dX12_countUnit_1 ?_
  refine pE_getI dX12_countUnit_2 flX12_267 rfl (Or.inl rfl) (by first | assumption | rfl) ?_
  rw [h22]
  refine pE_iconst (v := nI 1) dX12_countUnit_5 rfl ?_
  refine pE_iaddN dX12_countUnit_6 ?_
  refine pE_putI dX12_countUnit_7 flX12_267 ftX12 fiX12_22 rfl rfl (by first | assumption | rfl) ?_
  refine pE_aload_n dX12_countUnit_10 rfl rfl ?_
  refine pE_dupR dX12_countUnit_11 ?_
  refine pE_getI dX12_countUnit_12 flX12_270 rfl (Or.inl rfl) (by first | assumption | rfl) ?_
  rw [pu_at, if_neg (by omega), h24]
  refine pE_iconst (v := nI 1) dX12_countUnit_15 rfl ?_
  refine pE_iaddN dX12_countUnit_16 ?_
  refine pE_putI dX12_countUnit_17 flX12_270 ftX12 fiX12_24 rfl rfl (by first | assumption | rfl) ?_
  refine pE_vret dX12_countUnit_20 rfl rfl ?_
  exact hq
