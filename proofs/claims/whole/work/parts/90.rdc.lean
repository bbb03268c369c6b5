/-! where a reader stands: a fault and its place, or the token ahead *) -/
abbrev pRS : Type := (Nat × Nat) ⊕ Nat
def stp (B : Nat → Nat) (n p : Nat) : pRS := if tK B n (tE B n p) = 1 then .inl (1, tQ B n (tE B n p)) else .inr (tE B n p)
def flr (B : Nat → Nat) (n k : Nat) : pRS → pRS
  | .inl e => .inl e
  | .inr p => .inl (k, tQ B n p)
def tkWb (B : Nat → Nat) (n p i : Nat) : Bool := tK B n p == 2 && tL B n p == kwL i
theorem tkWb_i {B : Nat → Nat} {n p i : Nat} : tkWb B n p i = true ↔ tkW B n p i := by simp [tkWb, tkW]
def tkGb (B : Nat → Nat) (n p c : Nat) : Bool := tK B n p == 4 && tC B n p == c
def nxW (B : Nat → Nat) (n i : Nat) : pRS → pRS
  | .inl e => .inl e
  | .inr p => if tkWb B n p i = true then stp B n p else .inl (2, tQ B n p)
def nxG (B : Nat → Nat) (n c : Nat) : pRS → pRS
  | .inl e => .inl e
  | .inr p => if tkGb B n p c = true then stp B n p else .inl (2, tQ B n p)
def rdN (B : Nat → Nat) (n lo hi : Nat) : pRS → pRS
  | .inl e => .inl e
  | .inr p => if tK B n p = 3 then (if tV B n p < lo ∨ hi < tV B n p then .inl (4, tQ B n p) else stp B n p) else .inl (2, tQ B n p)
def vlN (B : Nat → Nat) (n : Nat) : pRS → Nat
  | .inl _ => 0
  | .inr p => tV B n p
def isW (B : Nat → Nat) (n i : Nat) : pRS → Bool
  | .inl _ => false
  | .inr p => tkWb B n p i
def isGn (B : Nat → Nat) (n c : Nat) : pRS → Bool
  | .inl _ => false
  | .inr p => tkGb B n p c
/-- the class's reader stands there -/
def cRd (B : Nat → Nat) (n : Nat) (I : pHI) (J : pHJ) : pRS → Prop
  | .inl e => I 2 6 = nI e.1 ∧ (1 ≤ e.1 ∧ e.1 ≤ 4) ∧ I 2 7 = nI e.2 ∧ e.2 ≤ 1600
  | .inr p => I 2 6 = nI 0 ∧ I 2 7 = -1 ∧ p ≤ n ∧ tK B n p ≠ 1 ∧ tkC B n p I J
def sR2 (I I1 : pHI) : Prop := ∀ c k, ¬ (c = 4 ∧ 2 ≤ k) → ¬ (c = 2 ∧ 6 ≤ k) → I1 c k = I c k
theorem sR2.rf {I : pHI} : sR2 I I := fun _ _ _ _ => rfl
theorem sR2.tr {I I1 I2 : pHI} (h1 : sR2 I I1) (h2 : sR2 I1 I2) : sR2 I I2 := fun c k a b => (h2 c k a b).trans (h1 c k a b)
theorem sR2.pu {I I1 : pHI} {k : Nat} {x : Int32} (h : sR2 I I1) (hk : 6 ≤ k) : sR2 I (pu I1 2 k x) := fun c j a b => by
  rw [pu_at, if_neg (fun q => b ⟨q.1, by omega⟩)]; exact h c j a b
theorem s4.r {I I1 : pHI} (h : s4 I I1) : sR2 I I1 := fun c k a _ => h c k a
theorem tpC.r {I I1 : pHI} {n : Nat} {B : Nat → Nat} (h : tpC I n B) (hx : sR2 I I1) : tpC I1 n B := ⟨by rw [hx 4 1 (by omega) (by omega)]; exact h.1, h.2.1, fun i hi => by rw [hx 1 i (by omega) (by omega)]; exact h.2.2 i hi⟩
theorem tkC.p2 {B : Nat → Nat} {n p c k : Nat} {x : Int32} {I : pHI} {J : pHJ} (h : tkC B n p I J) (hc : c ≠ 4) : tkC B n p (pu I c k x) J := by
  obtain ⟨a1, a2, a3, a4, a5, a6⟩ := h
  unfold tkC
  rw [pu_ne _ _ _ (fun e => hc e.symm)]
  exact ⟨a1, a2, a3, a4, a5, a6⟩
theorem stp_in {B : Nat → Nat} {n p q : Nat} (h : stp B n p = .inr q) : q = tE B n p ∧ tK B n q ≠ 1 := by
  unfold stp at h
  split at h
  · cases h
  · rename_i c
    cases h
    exact ⟨rfl, c⟩
set_option maxHeartbeats 400000 in
set_option maxRecDepth 100000 in
theorem M_X8_failE {l : Launch} {X : pX} {t g : Nat} {I : pHI} {J : pHJ} {Q : pQ} {f : Nat} {x : Int32} (hf : I 2 6 = nI f) (hf2 : 1 ≤ f ∧ f ≤ 4) (hq : Q none I J (pR t g)) : pM l X yX8_fail mX8_fail 0 [.ref 2, .int x] pK pK I J (pR t g) Q := by
  refine pM_of rfl (fun h => by cases h) rfl pKM (Nat.le_of_ble_eq_true rfl) ?_
  refine pE_aload_n dX8_fail_0 rfl rfl ?_
  refine pE_getI dX8_fail_1 flX8_29 rfl (Or.inl rfl) (by first | assumption | rfl) ?_
  rw [hf]
  refine pE_if_ne (tgt := 23) dX8_fail_4 (by decide) (fun h4 => ?_) (fun h4 => ?_)
  · have g4 := nq_ne0 (by omega) h4
    refine pE_vret dX8_fail_23 rfl rfl ?_
    exact hq
  · have g4 := nq_eq0 (by omega) h4
    omega
set_option maxHeartbeats 400000 in
set_option maxRecDepth 100000 in
theorem M_X8_failO {l : Launch} {X : pX} {t g : Nat} {I : pHI} {J : pHJ} {Q : pQ} {n : Nat} {B : Nat → Nat} {p k : Nat} (hf : I 2 6 = nI 0) (hk : tkC B n p I J) (hq : Q none (pu (pu I 2 6 (nI k)) 2 7 (nI (tQ B n p))) J (pR t g)) : pM l X yX8_fail mX8_fail 0 [.ref 2, .int (nI k)] pK pK I J (pR t g) Q := by
  refine pM_of rfl (fun h => by cases h) rfl pKM (Nat.le_of_ble_eq_true rfl) ?_
  refine pE_aload_n dX8_fail_0 rfl rfl ?_
  refine pE_getI dX8_fail_1 flX8_29 rfl (Or.inl rfl) (by first | assumption | rfl) ?_
  rw [hf]
  refine pE_if_ne (tgt := 23) dX8_fail_4 (by decide) (fun h4 => ?_) (fun h4 => ?_)
  · have g4 := nq_ne0 (by omega) h4
    omega
  · have g4 := nq_eq0 (by omega) h4
    refine pE_aload_n dX8_fail_7 rfl rfl ?_
    refine pE_iload_n dX8_fail_8 rfl rfl ?_
    refine pE_putI dX8_fail_9 flX8_29 ftX8 fiX8_6 rfl rfl (by first | assumption | rfl) ?_
    refine pE_aload_n dX8_fail_12 rfl rfl ?_
    refine pE_aload_n dX8_fail_13 rfl rfl ?_
    refine pE_getR dX8_fail_14 flX8_40 rfl (by first | assumption | rfl) (by first | assumption | rfl) ?_
    refine pE_getI dX8_fail_17 flX8_76 rfl (Or.inl rfl) (by first | assumption | rfl) ?_
    rw [pu_ne _ _ _ (show (4 : Nat) ≠ 2 by decide), hk.2.1]
    refine pE_putI dX8_fail_20 flX8_32 ftX8 fiX8_7 rfl rfl (by first | assumption | rfl) ?_
    refine pE_vret dX8_fail_23 rfl rfl ?_
    exact hq
set_option maxHeartbeats 400000 in
set_option maxRecDepth 100000 in
theorem M_X8_fail {l : Launch} {X : pX} {t g : Nat} {I : pHI} {J : pHJ} {Q : pQ} {n : Nat} {B : Nat → Nat} {s : pRS} {k : Nat} (hT : tpC I n B) (hr : cRd B n I J s) (hk : 1 ≤ k ∧ k ≤ 4) (hq : ∀ I1, sR2 I I1 → cRd B n I1 J (flr B n k s) → Q none I1 J (pR t g)) : pM l X yX8_fail mX8_fail 0 [.ref 2, .int (nI k)] pK pK I J (pR t g) Q := by
  cases s with
  | inl e => exact M_X8_failE hr.1 hr.2.1 (hq I sR2.rf hr)
  | inr p =>
    refine M_X8_failO hr.1 hr.2.2.2.2 (hq _ ((sR2.rf.pu (by omega)).pu (by omega)) ⟨?_, hk, ?_, ?_⟩)
    · rw [pu_at, if_neg (by omega), pu_at, if_pos ⟨rfl, rfl⟩]
    · rw [pu_at, if_pos ⟨rfl, rfl⟩]
    · have := (tQ_b (B := B) hr.2.2.1).2.1
      have := hT.2.1
      show tQ B n p ≤ 1600
      omega
set_option maxHeartbeats 400000 in
set_option maxRecDepth 100000 in
theorem M_X8_lookForToken {l : Launch} {X : pX} {t g : Nat} {I : pHI} {J : pHJ} {Q : pQ} {n : Nat} {B : Nat → Nat} {p : Nat} (hT : tpC I n B) (hp : p ≤ n) (hf : I 2 6 = nI 0) (hf2 : I 2 7 = -1) (hk : tkC B n p I J) (hq : ∀ I1, sR2 I I1 → cRd B n I1 J (if tK B n p = 1 then .inl (1, tQ B n p) else .inr p) → Q none I1 J (pR t g)) : pM l X yX8_lookForToken mX8_lookForToken 1 [.ref 2] pK pK I J (pR t g) Q := by
  have hkl := tK_le (B := B) hp
  have hn := hT.2.1
  have hb := (tQ_b (B := B) hp).2.1
  refine pM_of rfl (fun h => by cases h) rfl pKM (Nat.le_of_ble_eq_true rfl) ?_
  refine pE_aload_n dX8_lookForToken_0 rfl rfl ?_
  refine pE_getR dX8_lookForToken_1 flX8_40 rfl (by first | assumption | rfl) (by first | assumption | rfl) ?_
  refine pE_getI dX8_lookForToken_4 flX8_73 rfl (Or.inl rfl) (by first | assumption | rfl) ?_
  rw [hk.1]
  refine pE_iconst (v := nI 1) dX8_lookForToken_7 rfl ?_
  refine pE_icmp_ne (tgt := 16) dX8_lookForToken_8 (by decide) (fun h8 => ?_) (fun h8 => ?_)
  · have g8 := nq_ne (by omega) (by omega) h8
    refine pE_vret dX8_lookForToken_16 rfl rfl ?_
    rw [if_neg g8] at hq
    exact hq I sR2.rf ⟨hf, hf2, hp, g8, hk⟩
  · have g8 := nq_eq (by omega) (by omega) h8
    refine pE_aload_n dX8_lookForToken_11 rfl rfl ?_
    refine pE_iconst (v := nI 1) dX8_lookForToken_12 rfl ?_
    refine pE_callV (d' := 0) (as := [_]) dX8_lookForToken_13 lkX8_82 (cwX8_fail _ _) ivX8_fail ⟨_, rfl, rfl⟩ (by first | assumption | rfl) rfl rfl (Nat.le_of_ble_eq_true rfl) (by decide) pKK ?_
    refine M_X8_failO hf hk ?_
    refine pE_vret dX8_lookForToken_16 rfl rfl ?_
    rw [if_pos g8] at hq
    refine hq _ ((sR2.rf.pu (by omega)).pu (by omega)) ⟨?_, ⟨Nat.le_refl _, by omega⟩, ?_, ?_⟩
    · rw [pu_at, if_neg (by omega), pu_at, if_pos ⟨rfl, rfl⟩]
    · rw [pu_at, if_pos ⟨rfl, rfl⟩]
    · show tQ B n p ≤ 1600
      omega
set_option maxHeartbeats 400000 in
set_option maxRecDepth 100000 in
theorem M_X8_stepE {l : Launch} {X : pX} {t g : Nat} {I : pHI} {J : pHJ} {Q : pQ} {f : Nat} (hf : I 2 6 = nI f) (hf2 : 1 ≤ f ∧ f ≤ 4) (hq : Q none I J (pR t g)) : pM l X yX8_step mX8_step 6 [.ref 2] pK pK I J (pR t g) Q := by
  refine pM_of rfl (fun h => by cases h) rfl pKM (Nat.le_of_ble_eq_true rfl) ?_
  refine pE_aload_n dX8_step_0 rfl rfl ?_
  refine pE_getI dX8_step_1 flX8_29 rfl (Or.inl rfl) (by first | assumption | rfl) ?_
  rw [hf]
  refine pE_if_ne (tgt := 18) dX8_step_4 (by decide) (fun h4 => ?_) (fun h4 => ?_)
  · have g4 := nq_ne0 (by omega) h4
    refine pE_vret dX8_step_18 rfl rfl ?_
    exact hq
  · have g4 := nq_eq0 (by omega) h4
    omega
set_option maxHeartbeats 400000 in
set_option maxRecDepth 100000 in
theorem M_X8_stepO {l : Launch} {X : pX} {t g : Nat} {I : pHI} {J : pHJ} {Q : pQ} {n : Nat} {B : Nat → Nat} {p : Nat} (hT : tpC I n B) (hr : cRd B n I J (.inr p)) (hq : ∀ I1 J1, sR2 I I1 → j4 J J1 → cRd B n I1 J1 (stp B n p) → Q none I1 J1 (pR t g)) : pM l X yX8_step mX8_step 6 [.ref 2] pK pK I J (pR t g) Q := by
  have hb := (tE_b (B := B) hr.2.2.1).2
  refine pM_of rfl (fun h => by cases h) rfl pKM (Nat.le_of_ble_eq_true rfl) ?_
  refine pE_aload_n dX8_step_0 rfl rfl ?_
  refine pE_getI dX8_step_1 flX8_29 rfl (Or.inl rfl) (by first | assumption | rfl) ?_
  rw [hr.1]
  refine pE_if_ne (tgt := 18) dX8_step_4 (by decide) (fun h4 => ?_) (fun h4 => ?_)
  · have g4 := nq_ne0 (by omega) h4
    omega
  · have g4 := nq_eq0 (by omega) h4
    refine pE_aload_n dX8_step_7 rfl rfl ?_
    refine pE_getR dX8_step_8 flX8_40 rfl (by first | assumption | rfl) (by first | assumption | rfl) ?_
    refine pE_callV (d' := 5) (as := []) dX8_step_11 lkX8_79 (cwX10_step _ _) ivX10_step ⟨_, rfl, rfl⟩ (by first | assumption | rfl) rfl rfl (Nat.le_of_ble_eq_true rfl) (by decide) pKK ?_
    refine M_X10_step hT hb (fun I1 J1 x1 x2 x3 => ?_) hr.2.2.2.2.2.2.1
    refine pE_aload_n dX8_step_14 rfl rfl ?_
    refine pE_callV (d' := 1) (as := []) dX8_step_15 lkX8_53 (cwX8_lookForToken _ _) ivX8_lookForToken ⟨_, rfl, rfl⟩ (by first | assumption | rfl) rfl rfl (Nat.le_of_ble_eq_true rfl) (by decide) pKK ?_
    refine M_X8_lookForToken (hT.s4 x1) hb (by rw [x1 2 6 (by omega)]; exact hr.1) (by rw [x1 2 7 (by omega)]; exact hr.2.1) x3 (fun I2 y1 y2 => ?_)
    refine pE_vret dX8_step_18 rfl rfl ?_
    exact hq I2 J1 (x1.r.tr y1) x2 y2
set_option maxHeartbeats 400000 in
set_option maxRecDepth 100000 in
theorem M_X8_step {l : Launch} {X : pX} {t g : Nat} {I : pHI} {J : pHJ} {Q : pQ} {n : Nat} {B : Nat → Nat} {s : pRS} (hT : tpC I n B) (hr : cRd B n I J s) (hq : ∀ I1 J1, sR2 I I1 → j4 J J1 → cRd B n I1 J1 (match s with | .inl e => .inl e | .inr p => stp B n p) → Q none I1 J1 (pR t g)) : pM l X yX8_step mX8_step 6 [.ref 2] pK pK I J (pR t g) Q := by
  cases s with
  | inl e => exact M_X8_stepE hr.1 hr.2.1 (hq I J sR2.rf j4.rf hr)
  | inr p => exact M_X8_stepO hT hr hq
set_option maxHeartbeats 400000 in
set_option maxRecDepth 100000 in
theorem M_X8_readNumberE {l : Launch} {X : pX} {t g : Nat} {I : pHI} {J : pHJ} {Q : pQ} {f : Nat} {a b : Int32} (hf : I 2 6 = nI f) (hf2 : 1 ≤ f ∧ f ≤ 4) (hq : ∀ x, Q (some (.int x)) I J (pR t g)) : pM l X yX8_readNumber mX8_readNumber 7 [.ref 2, .int a, .int b] pK pK I J (pR t g) Q := by
  refine pM_of rfl (fun h => by cases h) rfl pKM (Nat.le_of_ble_eq_true rfl) ?_
  refine pE_aload_n dX8_readNumber_0 rfl rfl ?_
  refine pE_getR dX8_readNumber_1 flX8_40 rfl (by first | assumption | rfl) (by first | assumption | rfl) ?_
  refine pE_getI dX8_readNumber_4 flX8_163 rfl (Or.inl rfl) (by first | assumption | rfl) ?_
  refine pE_istore_n (lc' := [_, _, _, some (.int _)]) dX8_readNumber_7 rfl (Nat.le_of_ble_eq_true rfl) rfl rfl ?_
  refine pE_aload_n dX8_readNumber_8 rfl rfl ?_
  refine pE_getR dX8_readNumber_9 flX8_40 rfl (by first | assumption | rfl) (by first | assumption | rfl) ?_
  refine pE_getI dX8_readNumber_12 flX8_73 rfl (Or.inl rfl) (by first | assumption | rfl) ?_
  refine pE_iconst (v := nI 3) dX8_readNumber_15 rfl ?_
  refine pE_icmp_eq (tgt := 27) dX8_readNumber_16 (by decide) (fun h16 => ?_) (fun h16 => ?_)
  · refine pE_iload_n dX8_readNumber_27 rfl rfl ?_
    refine pE_iload_n dX8_readNumber_28 rfl rfl ?_
    refine pE_icmp_lt (tgt := 37) dX8_readNumber_29 (by decide) (fun h29 => ?_) (fun h29 => ?_)
    · refine pE_aload_n dX8_readNumber_37 rfl rfl ?_
      refine pE_iconst (v := nI 4) dX8_readNumber_38 rfl ?_
      refine pE_callV (d' := 0) (as := [_]) dX8_readNumber_39 lkX8_82 (cwX8_fail _ _) ivX8_fail ⟨_, rfl, rfl⟩ (by first | assumption | rfl) rfl rfl (Nat.le_of_ble_eq_true rfl) (by decide) pKK ?_
      refine M_X8_failE hf hf2 ?_
      refine pE_aload_n dX8_readNumber_42 rfl rfl ?_
      refine pE_callV (d' := 6) (as := []) dX8_readNumber_43 lkX8_85 (cwX8_step _ _) ivX8_step ⟨_, rfl, rfl⟩ (by first | assumption | rfl) rfl rfl (Nat.le_of_ble_eq_true rfl) (by decide) pKK ?_
      refine M_X8_stepE hf hf2 ?_
      refine pE_iload_n dX8_readNumber_46 rfl rfl ?_
      refine pE_iret dX8_readNumber_47 rfl rfl ?_
      exact hq _
    · refine pE_iload_n dX8_readNumber_32 rfl rfl ?_
      refine pE_iload_n dX8_readNumber_33 rfl rfl ?_
      refine pE_icmp_le (tgt := 42) dX8_readNumber_34 (by decide) (fun h34 => ?_) (fun h34 => ?_)
      · refine pE_aload_n dX8_readNumber_42 rfl rfl ?_
        refine pE_callV (d' := 6) (as := []) dX8_readNumber_43 lkX8_85 (cwX8_step _ _) ivX8_step ⟨_, rfl, rfl⟩ (by first | assumption | rfl) rfl rfl (Nat.le_of_ble_eq_true rfl) (by decide) pKK ?_
        refine M_X8_stepE hf hf2 ?_
        refine pE_iload_n dX8_readNumber_46 rfl rfl ?_
        refine pE_iret dX8_readNumber_47 rfl rfl ?_
        exact hq _
      · refine pE_aload_n dX8_readNumber_37 rfl rfl ?_
        refine pE_iconst (v := nI 4) dX8_readNumber_38 rfl ?_
        refine pE_callV (d' := 0) (as := [_]) dX8_readNumber_39 lkX8_82 (cwX8_fail _ _) ivX8_fail ⟨_, rfl, rfl⟩ (by first | assumption | rfl) rfl rfl (Nat.le_of_ble_eq_true rfl) (by decide) pKK ?_
        refine M_X8_failE hf hf2 ?_
        refine pE_aload_n dX8_readNumber_42 rfl rfl ?_
        refine pE_callV (d' := 6) (as := []) dX8_readNumber_43 lkX8_85 (cwX8_step _ _) ivX8_step ⟨_, rfl, rfl⟩ (by first | assumption | rfl) rfl rfl (Nat.le_of_ble_eq_true rfl) (by decide) pKK ?_
        refine M_X8_stepE hf hf2 ?_
        refine pE_iload_n dX8_readNumber_46 rfl rfl ?_
        refine pE_iret dX8_readNumber_47 rfl rfl ?_
        exact hq _
  · refine pE_aload_n dX8_readNumber_19 rfl rfl ?_
    refine pE_iconst (v := nI 2) dX8_readNumber_20 rfl ?_
    refine pE_callV (d' := 0) (as := [_]) dX8_readNumber_21 lkX8_82 (cwX8_fail _ _) ivX8_fail ⟨_, rfl, rfl⟩ (by first | assumption | rfl) rfl rfl (Nat.le_of_ble_eq_true rfl) (by decide) pKK ?_
    refine M_X8_failE hf hf2 ?_
    refine pE_goto (tgt := 42) dX8_readNumber_24 (by decide) ?_
    refine pE_aload_n dX8_readNumber_42 rfl rfl ?_
    refine pE_callV (d' := 6) (as := []) dX8_readNumber_43 lkX8_85 (cwX8_step _ _) ivX8_step ⟨_, rfl, rfl⟩ (by first | assumption | rfl) rfl rfl (Nat.le_of_ble_eq_true rfl) (by decide) pKK ?_
    refine M_X8_stepE hf hf2 ?_
    refine pE_iload_n dX8_readNumber_46 rfl rfl ?_
    refine pE_iret dX8_readNumber_47 rfl rfl ?_
    exact hq _
set_option maxHeartbeats 400000 in
set_option maxRecDepth 100000 in
theorem M_X8_readNumberO {l : Launch} {X : pX} {t g : Nat} {I : pHI} {J : pHJ} {Q : pQ} {n : Nat} {B : Nat → Nat} {p lo hi : Nat} (hT : tpC I n B) (hr : cRd B n I J (.inr p)) (hlo : lo < 2 ^ 31) (hhi : hi < 2 ^ 31) (hq : ∀ I1 J1 x, sR2 I I1 → j4 J J1 → cRd B n I1 J1 (rdN B n lo hi (.inr p)) → (tK B n p = 3 → x = nI (tV B n p)) → Q (some (.int x)) I1 J1 (pR t g)) : pM l X yX8_readNumber mX8_readNumber 7 [.ref 2, .int (nI lo), .int (nI hi)] pK pK I J (pR t g) Q := by
  have hkl := tK_le (B := B) hr.2.2.1
  refine pM_of rfl (fun h => by cases h) rfl pKM (Nat.le_of_ble_eq_true rfl) ?_
  refine pE_aload_n dX8_readNumber_0 rfl rfl ?_
  refine pE_getR dX8_readNumber_1 flX8_40 rfl (by first | assumption | rfl) (by first | assumption | rfl) ?_
  refine pE_getI dX8_readNumber_4 flX8_163 rfl (Or.inl rfl) (by first | assumption | rfl) ?_
  refine pE_istore_n (lc' := [_, _, _, some (.int _)]) dX8_readNumber_7 rfl (Nat.le_of_ble_eq_true rfl) rfl rfl ?_
  refine pE_aload_n dX8_readNumber_8 rfl rfl ?_
  refine pE_getR dX8_readNumber_9 flX8_40 rfl (by first | assumption | rfl) (by first | assumption | rfl) ?_
  refine pE_getI dX8_readNumber_12 flX8_73 rfl (Or.inl rfl) (by first | assumption | rfl) ?_
  rw [hr.2.2.2.2.1]
  refine pE_iconst (v := nI 3) dX8_readNumber_15 rfl ?_
  refine pE_icmp_eq (tgt := 27) dX8_readNumber_16 (by decide) (fun h16 => ?_) (fun h16 => ?_)
  · have g16 := nq_eq (by omega) (by omega) h16
    have hv := hr.2.2.2.2.2.2.2.1 (by omega)
    have hvl := tV_lt (B := B) hr.2.2.1 (by omega)
    rw [hv]
    refine pE_iload_n dX8_readNumber_27 rfl rfl ?_
    refine pE_iload_n dX8_readNumber_28 rfl rfl ?_
    refine pE_icmp_lt (tgt := 37) dX8_readNumber_29 (by decide) (fun h29 => ?_) (fun h29 => ?_)
    · refine pE_aload_n dX8_readNumber_37 rfl rfl ?_
      refine pE_iconst (v := nI 4) dX8_readNumber_38 rfl ?_
      refine pE_callV (d' := 0) (as := [_]) dX8_readNumber_39 lkX8_82 (cwX8_fail _ _) ivX8_fail ⟨_, rfl, rfl⟩ (by first | assumption | rfl) rfl rfl (Nat.le_of_ble_eq_true rfl) (by decide) pKK ?_
      refine M_X8_fail hT hr (by omega) (fun I1 x1 x2 => ?_)
      first
      | (have z := x2
         refine pE_aload_n dX8_readNumber_42 rfl rfl ?_
         refine pE_callV (d' := 6) (as := []) dX8_readNumber_43 lkX8_85 (cwX8_step _ _) ivX8_step ⟨_, rfl, rfl⟩ (by first | assumption | rfl) rfl rfl (Nat.le_of_ble_eq_true rfl) (by decide) pKK ?_
         refine M_X8_step (hT.r x1) x2 (fun I2 J2 y1 y2 y3 => ?_)
         refine pE_iload_n dX8_readNumber_46 rfl rfl ?_
         refine pE_iret dX8_readNumber_47 rfl rfl ?_
         first
         | (refine hq I2 J2 _ (x1.tr y1) y2 ?_ (fun z => absurd z g16)
            rw [rdN, if_neg g16]; exact y3)
         | (have g16' := g16
            refine hq I2 J2 _ (x1.tr y1) y2 ?_ (fun _ => rfl)
            rw [rdN, if_pos g16', if_pos (by first | exact Or.inl (nq_lt (by omega) (by omega) h29) | exact Or.inr (nq_nle (by omega) (by omega) h34))]; exact y3))
      | (refine pE_aload_n dX8_readNumber_42 rfl rfl ?_
         refine pE_callV (d' := 6) (as := []) dX8_readNumber_43 lkX8_85 (cwX8_step _ _) ivX8_step ⟨_, rfl, rfl⟩ (by first | assumption | rfl) rfl rfl (Nat.le_of_ble_eq_true rfl) (by decide) pKK ?_
         refine M_X8_step (hT.r sR2.rf) hr (fun I2 J2 y1 y2 y3 => ?_)
         refine pE_iload_n dX8_readNumber_46 rfl rfl ?_
         refine pE_iret dX8_readNumber_47 rfl rfl ?_
         refine hq I2 J2 _ y1 y2 ?_ (fun _ => rfl)
         rw [rdN, if_pos g16, if_neg (by
           have a1 := nq_nlt (by omega) (by omega) h29
           have a2 := nq_le (by omega) (by omega) h34
           omega)]
         exact y3)
    · refine pE_iload_n dX8_readNumber_32 rfl rfl ?_
      refine pE_iload_n dX8_readNumber_33 rfl rfl ?_
      refine pE_icmp_le (tgt := 42) dX8_readNumber_34 (by decide) (fun h34 => ?_) (fun h34 => ?_)
      · first
        | (have z := x2
           refine pE_aload_n dX8_readNumber_42 rfl rfl ?_
           refine pE_callV (d' := 6) (as := []) dX8_readNumber_43 lkX8_85 (cwX8_step _ _) ivX8_step ⟨_, rfl, rfl⟩ (by first | assumption | rfl) rfl rfl (Nat.le_of_ble_eq_true rfl) (by decide) pKK ?_
           refine M_X8_step (hT.r x1) x2 (fun I2 J2 y1 y2 y3 => ?_)
           refine pE_iload_n dX8_readNumber_46 rfl rfl ?_
           refine pE_iret dX8_readNumber_47 rfl rfl ?_
           first
           | (refine hq I2 J2 _ (x1.tr y1) y2 ?_ (fun z => absurd z g16)
              rw [rdN, if_neg g16]; exact y3)
           | (have g16' := g16
              refine hq I2 J2 _ (x1.tr y1) y2 ?_ (fun _ => rfl)
              rw [rdN, if_pos g16', if_pos (by first | exact Or.inl (nq_lt (by omega) (by omega) h29) | exact Or.inr (nq_nle (by omega) (by omega) h34))]; exact y3))
        | (refine pE_aload_n dX8_readNumber_42 rfl rfl ?_
           refine pE_callV (d' := 6) (as := []) dX8_readNumber_43 lkX8_85 (cwX8_step _ _) ivX8_step ⟨_, rfl, rfl⟩ (by first | assumption | rfl) rfl rfl (Nat.le_of_ble_eq_true rfl) (by decide) pKK ?_
           refine M_X8_step (hT.r sR2.rf) hr (fun I2 J2 y1 y2 y3 => ?_)
           refine pE_iload_n dX8_readNumber_46 rfl rfl ?_
           refine pE_iret dX8_readNumber_47 rfl rfl ?_
           refine hq I2 J2 _ y1 y2 ?_ (fun _ => rfl)
           rw [rdN, if_pos g16, if_neg (by
             have a1 := nq_nlt (by omega) (by omega) h29
             have a2 := nq_le (by omega) (by omega) h34
             omega)]
           exact y3)
      · refine pE_aload_n dX8_readNumber_37 rfl rfl ?_
        refine pE_iconst (v := nI 4) dX8_readNumber_38 rfl ?_
        refine pE_callV (d' := 0) (as := [_]) dX8_readNumber_39 lkX8_82 (cwX8_fail _ _) ivX8_fail ⟨_, rfl, rfl⟩ (by first | assumption | rfl) rfl rfl (Nat.le_of_ble_eq_true rfl) (by decide) pKK ?_
        refine M_X8_fail hT hr (by omega) (fun I1 x1 x2 => ?_)
        first
        | (have z := x2
           refine pE_aload_n dX8_readNumber_42 rfl rfl ?_
           refine pE_callV (d' := 6) (as := []) dX8_readNumber_43 lkX8_85 (cwX8_step _ _) ivX8_step ⟨_, rfl, rfl⟩ (by first | assumption | rfl) rfl rfl (Nat.le_of_ble_eq_true rfl) (by decide) pKK ?_
           refine M_X8_step (hT.r x1) x2 (fun I2 J2 y1 y2 y3 => ?_)
           refine pE_iload_n dX8_readNumber_46 rfl rfl ?_
           refine pE_iret dX8_readNumber_47 rfl rfl ?_
           first
           | (refine hq I2 J2 _ (x1.tr y1) y2 ?_ (fun z => absurd z g16)
              rw [rdN, if_neg g16]; exact y3)
           | (have g16' := g16
              refine hq I2 J2 _ (x1.tr y1) y2 ?_ (fun _ => rfl)
              rw [rdN, if_pos g16', if_pos (by first | exact Or.inl (nq_lt (by omega) (by omega) h29) | exact Or.inr (nq_nle (by omega) (by omega) h34))]; exact y3))
        | (refine pE_aload_n dX8_readNumber_42 rfl rfl ?_
           refine pE_callV (d' := 6) (as := []) dX8_readNumber_43 lkX8_85 (cwX8_step _ _) ivX8_step ⟨_, rfl, rfl⟩ (by first | assumption | rfl) rfl rfl (Nat.le_of_ble_eq_true rfl) (by decide) pKK ?_
           refine M_X8_step (hT.r sR2.rf) hr (fun I2 J2 y1 y2 y3 => ?_)
           refine pE_iload_n dX8_readNumber_46 rfl rfl ?_
           refine pE_iret dX8_readNumber_47 rfl rfl ?_
           refine hq I2 J2 _ y1 y2 ?_ (fun _ => rfl)
           rw [rdN, if_pos g16, if_neg (by
             have a1 := nq_nlt (by omega) (by omega) h29
             have a2 := nq_le (by omega) (by omega) h34
             omega)]
           exact y3)
  · have g16 := nq_ne (by omega) (by omega) h16
    refine pE_aload_n dX8_readNumber_19 rfl rfl ?_
    refine pE_iconst (v := nI 2) dX8_readNumber_20 rfl ?_
    refine pE_callV (d' := 0) (as := [_]) dX8_readNumber_21 lkX8_82 (cwX8_fail _ _) ivX8_fail ⟨_, rfl, rfl⟩ (by first | assumption | rfl) rfl rfl (Nat.le_of_ble_eq_true rfl) (by decide) pKK ?_
    refine M_X8_fail hT hr (by omega) (fun I1 x1 x2 => ?_)
    refine pE_goto (tgt := 42) dX8_readNumber_24 (by decide) ?_
    first
    | (have z := x2
       refine pE_aload_n dX8_readNumber_42 rfl rfl ?_
       refine pE_callV (d' := 6) (as := []) dX8_readNumber_43 lkX8_85 (cwX8_step _ _) ivX8_step ⟨_, rfl, rfl⟩ (by first | assumption | rfl) rfl rfl (Nat.le_of_ble_eq_true rfl) (by decide) pKK ?_
       refine M_X8_step (hT.r x1) x2 (fun I2 J2 y1 y2 y3 => ?_)
       refine pE_iload_n dX8_readNumber_46 rfl rfl ?_
       refine pE_iret dX8_readNumber_47 rfl rfl ?_
       first
       | (refine hq I2 J2 _ (x1.tr y1) y2 ?_ (fun z => absurd z g16)
          rw [rdN, if_neg g16]; exact y3)
       | (have g16' := g16
          refine hq I2 J2 _ (x1.tr y1) y2 ?_ (fun _ => rfl)
          rw [rdN, if_pos g16', if_pos (by first | exact Or.inl (nq_lt (by omega) (by omega) h29) | exact Or.inr (nq_nle (by omega) (by omega) h34))]; exact y3))
    | (refine pE_aload_n dX8_readNumber_42 rfl rfl ?_
       refine pE_callV (d' := 6) (as := []) dX8_readNumber_43 lkX8_85 (cwX8_step _ _) ivX8_step ⟨_, rfl, rfl⟩ (by first | assumption | rfl) rfl rfl (Nat.le_of_ble_eq_true rfl) (by decide) pKK ?_
       refine M_X8_step (hT.r sR2.rf) hr (fun I2 J2 y1 y2 y3 => ?_)
       refine pE_iload_n dX8_readNumber_46 rfl rfl ?_
       refine pE_iret dX8_readNumber_47 rfl rfl ?_
       refine hq I2 J2 _ y1 y2 ?_ (fun _ => rfl)
       rw [rdN, if_pos g16, if_neg (by
         have a1 := nq_nlt (by omega) (by omega) h29
         have a2 := nq_le (by omega) (by omega) h34
         omega)]
       exact y3)
set_option maxHeartbeats 400000 in
set_option maxRecDepth 100000 in
theorem M_X8_readNumber {l : Launch} {X : pX} {t g : Nat} {I : pHI} {J : pHJ} {Q : pQ} {n : Nat} {B : Nat → Nat} {s : pRS} {lo hi : Nat} (hT : tpC I n B) (hr : cRd B n I J s) (hlo : lo < 2 ^ 31) (hhi : hi < 2 ^ 31) (hq : ∀ I1 J1 x, sR2 I I1 → j4 J J1 → cRd B n I1 J1 (rdN B n lo hi (s)) → (∀ p, rdN B n lo hi s = .inr p → x = nI (vlN B n s)) → Q (some (.int x)) I1 J1 (pR t g)) : pM l X yX8_readNumber mX8_readNumber 7 [.ref 2, .int (nI lo), .int (nI hi)] pK pK I J (pR t g) Q := by
  cases s with
  | inl e => exact M_X8_readNumberE hr.1 hr.2.1 (fun x => hq I J x sR2.rf j4.rf hr (fun p z => by cases z))
  | inr p =>
    refine M_X8_readNumberO hT hr hlo hhi (fun I1 J1 x a b d e => hq I1 J1 x a b d (fun p2 z => ?_))
    simp only [rdN] at z
    split at z
    · exact e (by assumption)
    · cases z
set_option maxHeartbeats 400000 in
set_option maxRecDepth 100000 in
theorem M_X8_readWordE {l : Launch} {X : pX} {t g : Nat} {I : pHI} {J : pHJ} {Q : pQ} {f : Nat} {i : Nat} (hf : I 2 6 = nI f) (hf2 : 1 ≤ f ∧ f ≤ 4) (hi : i < 19) (hq : Q none I J (pR t g)) : pM l X yX8_readWord mX8_readWord 7 [.ref 2, .ref (1000000 + 2 * i)] pK pK I J (pR t g) Q := by
  refine pM_of rfl (fun h => by cases h) rfl pKM (Nat.le_of_ble_eq_true rfl) ?_
  refine pE_aload_n dX8_readWord_0 rfl rfl ?_
  refine pE_getR dX8_readWord_1 flX8_40 rfl (by first | assumption | rfl) (by first | assumption | rfl) ?_
  refine pE_aload_n dX8_readWord_4 rfl rfl ?_
  refine pE_callV (d' := 4) (as := [_]) dX8_readWord_5 lkX8_102 (cwX10_isWord _ _) ivX10_isWord ⟨_, rfl, rfl⟩ (by first | assumption | rfl) rfl rfl (Nat.le_of_ble_eq_true rfl) (by decide) pKK ?_
  refine M_X10_isWord hi (fun z1 z2 => ?_) (fun z => ?_)
  · refine pE_if_ne_t (tgt := 16) dX8_readWord_8 (by decide) nI_1n0 ?_
    refine pE_aload_n dX8_readWord_16 rfl rfl ?_
    refine pE_callV (d' := 6) (as := []) dX8_readWord_17 lkX8_85 (cwX8_step _ _) ivX8_step ⟨_, rfl, rfl⟩ (by first | assumption | rfl) rfl rfl (Nat.le_of_ble_eq_true rfl) (by decide) pKK ?_
    refine M_X8_stepE hf hf2 ?_
    refine pE_vret dX8_readWord_20 rfl rfl ?_
    exact hq
  · refine pE_if_ne_f (tgt := 16) dX8_readWord_8 (by decide) nI_0 ?_
    refine pE_aload_n dX8_readWord_11 rfl rfl ?_
    refine pE_iconst (v := nI 2) dX8_readWord_12 rfl ?_
    refine pE_callV (d' := 0) (as := [_]) dX8_readWord_13 lkX8_82 (cwX8_fail _ _) ivX8_fail ⟨_, rfl, rfl⟩ (by first | assumption | rfl) rfl rfl (Nat.le_of_ble_eq_true rfl) (by decide) pKK ?_
    refine M_X8_failE hf hf2 ?_
    refine pE_aload_n dX8_readWord_16 rfl rfl ?_
    refine pE_callV (d' := 6) (as := []) dX8_readWord_17 lkX8_85 (cwX8_step _ _) ivX8_step ⟨_, rfl, rfl⟩ (by first | assumption | rfl) rfl rfl (Nat.le_of_ble_eq_true rfl) (by decide) pKK ?_
    refine M_X8_stepE hf hf2 ?_
    refine pE_vret dX8_readWord_20 rfl rfl ?_
    exact hq
set_option maxHeartbeats 400000 in
set_option maxRecDepth 100000 in
theorem M_X8_readWordO {l : Launch} {X : pX} {t g : Nat} {I : pHI} {J : pHJ} {Q : pQ} {n : Nat} {B : Nat → Nat} {p : Nat} {i : Nat} (hT : tpC I n B) (hr : cRd B n I J (.inr p)) (hi : i ∈ ownI) (hq : ∀ I1 J1, sR2 I I1 → j4 J J1 → cRd B n I1 J1 (nxW B n i (.inr p)) → Q none I1 J1 (pR t g)) : pM l X yX8_readWord mX8_readWord 7 [.ref 2, .ref (1000000 + 2 * i)] pK pK I J (pR t g) Q := by
  have hi19 : i < 19 := by revert hi; unfold ownI; intro hi; simp at hi; omega
  refine pM_of rfl (fun h => by cases h) rfl pKM (Nat.le_of_ble_eq_true rfl) ?_
  refine pE_aload_n dX8_readWord_0 rfl rfl ?_
  refine pE_getR dX8_readWord_1 flX8_40 rfl (by first | assumption | rfl) (by first | assumption | rfl) ?_
  refine pE_aload_n dX8_readWord_4 rfl rfl ?_
  refine pE_callV (d' := 4) (as := [_]) dX8_readWord_5 lkX8_102 (cwX10_isWord _ _) ivX10_isWord ⟨_, rfl, rfl⟩ (by first | assumption | rfl) rfl rfl (Nat.le_of_ble_eq_true rfl) (by decide) pKK ?_
  refine M_X10_isWord hi19 (fun z1 z2 => ?_) (fun z => ?_)
  · have hw : tkWb B n p i = true := tkWb_i.mpr ((hr.2.2.2.2.word hr.2.2.1 hi).mp ⟨z1, z2⟩)
    refine pE_if_ne_t (tgt := 16) dX8_readWord_8 (by decide) nI_1n0 ?_
    first
    | (have z9 := x2
       refine pE_aload_n dX8_readWord_16 rfl rfl ?_
       refine pE_callV (d' := 6) (as := []) dX8_readWord_17 lkX8_85 (cwX8_step _ _) ivX8_step ⟨_, rfl, rfl⟩ (by first | assumption | rfl) rfl rfl (Nat.le_of_ble_eq_true rfl) (by decide) pKK ?_
       refine M_X8_step (hT.r x1) x2 (fun I2 J2 y1 y2 y3 => ?_)
       refine pE_vret dX8_readWord_20 rfl rfl ?_
       refine hq I2 J2 (x1.tr y1) y2 ?_
       rw [nxW, if_neg hw]; exact y3)
    | (refine pE_aload_n dX8_readWord_16 rfl rfl ?_
       refine pE_callV (d' := 6) (as := []) dX8_readWord_17 lkX8_85 (cwX8_step _ _) ivX8_step ⟨_, rfl, rfl⟩ (by first | assumption | rfl) rfl rfl (Nat.le_of_ble_eq_true rfl) (by decide) pKK ?_
       refine M_X8_step hT hr (fun I2 J2 y1 y2 y3 => ?_)
       refine pE_vret dX8_readWord_20 rfl rfl ?_
       refine hq I2 J2 y1 y2 ?_
       rw [nxW, if_pos hw]; exact y3)
  · have hw : ¬ tkWb B n p i = true := fun y => z ((hr.2.2.2.2.word hr.2.2.1 hi).mpr (tkWb_i.mp y))
    refine pE_if_ne_f (tgt := 16) dX8_readWord_8 (by decide) nI_0 ?_
    refine pE_aload_n dX8_readWord_11 rfl rfl ?_
    refine pE_iconst (v := nI 2) dX8_readWord_12 rfl ?_
    refine pE_callV (d' := 0) (as := [_]) dX8_readWord_13 lkX8_82 (cwX8_fail _ _) ivX8_fail ⟨_, rfl, rfl⟩ (by first | assumption | rfl) rfl rfl (Nat.le_of_ble_eq_true rfl) (by decide) pKK ?_
    refine M_X8_fail hT hr (by omega) (fun I1 x1 x2 => ?_)
    first
    | (have z9 := x2
       refine pE_aload_n dX8_readWord_16 rfl rfl ?_
       refine pE_callV (d' := 6) (as := []) dX8_readWord_17 lkX8_85 (cwX8_step _ _) ivX8_step ⟨_, rfl, rfl⟩ (by first | assumption | rfl) rfl rfl (Nat.le_of_ble_eq_true rfl) (by decide) pKK ?_
       refine M_X8_step (hT.r x1) x2 (fun I2 J2 y1 y2 y3 => ?_)
       refine pE_vret dX8_readWord_20 rfl rfl ?_
       refine hq I2 J2 (x1.tr y1) y2 ?_
       rw [nxW, if_neg hw]; exact y3)
    | (refine pE_aload_n dX8_readWord_16 rfl rfl ?_
       refine pE_callV (d' := 6) (as := []) dX8_readWord_17 lkX8_85 (cwX8_step _ _) ivX8_step ⟨_, rfl, rfl⟩ (by first | assumption | rfl) rfl rfl (Nat.le_of_ble_eq_true rfl) (by decide) pKK ?_
       refine M_X8_step hT hr (fun I2 J2 y1 y2 y3 => ?_)
       refine pE_vret dX8_readWord_20 rfl rfl ?_
       refine hq I2 J2 y1 y2 ?_
       rw [nxW, if_pos hw]; exact y3)
set_option maxHeartbeats 400000 in
set_option maxRecDepth 100000 in
theorem M_X8_readWord {l : Launch} {X : pX} {t g : Nat} {I : pHI} {J : pHJ} {Q : pQ} {n : Nat} {B : Nat → Nat} {s : pRS} {i : Nat} (hT : tpC I n B) (hr : cRd B n I J s) (hi : i ∈ ownI) (hq : ∀ I1 J1, sR2 I I1 → j4 J J1 → cRd B n I1 J1 (nxW B n i s) → Q none I1 J1 (pR t g)) : pM l X yX8_readWord mX8_readWord 7 [.ref 2, .ref (1000000 + 2 * i)] pK pK I J (pR t g) Q := by
  cases s with
  | inl e => exact M_X8_readWordE hr.1 hr.2.1 (by revert hi; unfold ownI; intro hi; simp at hi; omega) (hq I J sR2.rf j4.rf hr)
  | inr p => exact M_X8_readWordO hT hr hi hq
set_option maxHeartbeats 400000 in
set_option maxRecDepth 100000 in
theorem M_X8_readSignE {l : Launch} {X : pX} {t g : Nat} {I : pHI} {J : pHJ} {Q : pQ} {f : Nat} {c : Nat} (hf : I 2 6 = nI f) (hf2 : 1 ≤ f ∧ f ≤ 4) (hq : Q none I J (pR t g)) : pM l X yX8_readSign mX8_readSign 7 [.ref 2, .int (nI c)] pK pK I J (pR t g) Q := by
  refine pM_of rfl (fun h => by cases h) rfl pKM (Nat.le_of_ble_eq_true rfl) ?_
  refine pE_aload_n dX8_readSign_0 rfl rfl ?_
  refine pE_getR dX8_readSign_1 flX8_40 rfl (by first | assumption | rfl) (by first | assumption | rfl) ?_
  refine pE_iload_n dX8_readSign_4 rfl rfl ?_
  refine pE_callV (d' := 0) (as := [_]) dX8_readSign_5 lkX8_166 (cwX10_isSign _ _) ivX10_isSign ⟨_, rfl, rfl⟩ (by first | assumption | rfl) rfl rfl (Nat.le_of_ble_eq_true rfl) (by decide) pKK ?_
  refine M_X10_isSign  (fun z1 z2 => ?_) (fun z => ?_)
  · refine pE_if_ne_t (tgt := 16) dX8_readSign_8 (by decide) nI_1n0 ?_
    refine pE_aload_n dX8_readSign_16 rfl rfl ?_
    refine pE_callV (d' := 6) (as := []) dX8_readSign_17 lkX8_85 (cwX8_step _ _) ivX8_step ⟨_, rfl, rfl⟩ (by first | assumption | rfl) rfl rfl (Nat.le_of_ble_eq_true rfl) (by decide) pKK ?_
    refine M_X8_stepE hf hf2 ?_
    refine pE_vret dX8_readSign_20 rfl rfl ?_
    exact hq
  · refine pE_if_ne_f (tgt := 16) dX8_readSign_8 (by decide) nI_0 ?_
    refine pE_aload_n dX8_readSign_11 rfl rfl ?_
    refine pE_iconst (v := nI 2) dX8_readSign_12 rfl ?_
    refine pE_callV (d' := 0) (as := [_]) dX8_readSign_13 lkX8_82 (cwX8_fail _ _) ivX8_fail ⟨_, rfl, rfl⟩ (by first | assumption | rfl) rfl rfl (Nat.le_of_ble_eq_true rfl) (by decide) pKK ?_
    refine M_X8_failE hf hf2 ?_
    refine pE_aload_n dX8_readSign_16 rfl rfl ?_
    refine pE_callV (d' := 6) (as := []) dX8_readSign_17 lkX8_85 (cwX8_step _ _) ivX8_step ⟨_, rfl, rfl⟩ (by first | assumption | rfl) rfl rfl (Nat.le_of_ble_eq_true rfl) (by decide) pKK ?_
    refine M_X8_stepE hf hf2 ?_
    refine pE_vret dX8_readSign_20 rfl rfl ?_
    exact hq
theorem tkC.sign {B : Nat → Nat} {n p c : Nat} {I : pHI} {J : pHJ} (h : tkC B n p I J) (hp : p ≤ n) (hc : c < 256) : (I 4 2 = nI 4 ∧ I 4 6 = nI c) ↔ tkGb B n p c = true := by
  have hk := tK_le (B := B) hp
  unfold tkGb
  rw [h.1, nI_eq (by omega) (by omega), h.2.2.2.2.1, Bool.and_eq_true, beq_iff_eq, beq_iff_eq]
  constructor
  · rintro ⟨a, b⟩
    have := sgB_lt (tK_4 a)
    rw [bI_n (by omega), nI_eq (by omega) (by omega)] at b
    exact ⟨a, b⟩
  · rintro ⟨a, b⟩
    rw [b, bI_n hc]
    exact ⟨a, rfl⟩
set_option maxHeartbeats 400000 in
set_option maxRecDepth 100000 in
theorem M_X8_readSignO {l : Launch} {X : pX} {t g : Nat} {I : pHI} {J : pHJ} {Q : pQ} {n : Nat} {B : Nat → Nat} {p : Nat} {c : Nat} (hT : tpC I n B) (hr : cRd B n I J (.inr p)) (hc : c < 256) (hq : ∀ I1 J1, sR2 I I1 → j4 J J1 → cRd B n I1 J1 (nxG B n c (.inr p)) → Q none I1 J1 (pR t g)) : pM l X yX8_readSign mX8_readSign 7 [.ref 2, .int (nI c)] pK pK I J (pR t g) Q := by
  refine pM_of rfl (fun h => by cases h) rfl pKM (Nat.le_of_ble_eq_true rfl) ?_
  refine pE_aload_n dX8_readSign_0 rfl rfl ?_
  refine pE_getR dX8_readSign_1 flX8_40 rfl (by first | assumption | rfl) (by first | assumption | rfl) ?_
  refine pE_iload_n dX8_readSign_4 rfl rfl ?_
  refine pE_callV (d' := 0) (as := [_]) dX8_readSign_5 lkX8_166 (cwX10_isSign _ _) ivX10_isSign ⟨_, rfl, rfl⟩ (by first | assumption | rfl) rfl rfl (Nat.le_of_ble_eq_true rfl) (by decide) pKK ?_
  refine M_X10_isSign  (fun z1 z2 => ?_) (fun z => ?_)
  · have hw : tkGb B n p c = true := (hr.2.2.2.2.sign hr.2.2.1 hc).mp ⟨z1, z2⟩
    refine pE_if_ne_t (tgt := 16) dX8_readSign_8 (by decide) nI_1n0 ?_
    first
    | (have z9 := x2
       refine pE_aload_n dX8_readSign_16 rfl rfl ?_
       refine pE_callV (d' := 6) (as := []) dX8_readSign_17 lkX8_85 (cwX8_step _ _) ivX8_step ⟨_, rfl, rfl⟩ (by first | assumption | rfl) rfl rfl (Nat.le_of_ble_eq_true rfl) (by decide) pKK ?_
       refine M_X8_step (hT.r x1) x2 (fun I2 J2 y1 y2 y3 => ?_)
       refine pE_vret dX8_readSign_20 rfl rfl ?_
       refine hq I2 J2 (x1.tr y1) y2 ?_
       rw [nxG, if_neg hw]; exact y3)
    | (refine pE_aload_n dX8_readSign_16 rfl rfl ?_
       refine pE_callV (d' := 6) (as := []) dX8_readSign_17 lkX8_85 (cwX8_step _ _) ivX8_step ⟨_, rfl, rfl⟩ (by first | assumption | rfl) rfl rfl (Nat.le_of_ble_eq_true rfl) (by decide) pKK ?_
       refine M_X8_step hT hr (fun I2 J2 y1 y2 y3 => ?_)
       refine pE_vret dX8_readSign_20 rfl rfl ?_
       refine hq I2 J2 y1 y2 ?_
       rw [nxG, if_pos hw]; exact y3)
  · have hw : ¬ tkGb B n p c = true := fun y => z ((hr.2.2.2.2.sign hr.2.2.1 hc).mpr y)
    refine pE_if_ne_f (tgt := 16) dX8_readSign_8 (by decide) nI_0 ?_
    refine pE_aload_n dX8_readSign_11 rfl rfl ?_
    refine pE_iconst (v := nI 2) dX8_readSign_12 rfl ?_
    refine pE_callV (d' := 0) (as := [_]) dX8_readSign_13 lkX8_82 (cwX8_fail _ _) ivX8_fail ⟨_, rfl, rfl⟩ (by first | assumption | rfl) rfl rfl (Nat.le_of_ble_eq_true rfl) (by decide) pKK ?_
    refine M_X8_fail hT hr (by omega) (fun I1 x1 x2 => ?_)
    first
    | (have z9 := x2
       refine pE_aload_n dX8_readSign_16 rfl rfl ?_
       refine pE_callV (d' := 6) (as := []) dX8_readSign_17 lkX8_85 (cwX8_step _ _) ivX8_step ⟨_, rfl, rfl⟩ (by first | assumption | rfl) rfl rfl (Nat.le_of_ble_eq_true rfl) (by decide) pKK ?_
       refine M_X8_step (hT.r x1) x2 (fun I2 J2 y1 y2 y3 => ?_)
       refine pE_vret dX8_readSign_20 rfl rfl ?_
       refine hq I2 J2 (x1.tr y1) y2 ?_
       rw [nxG, if_neg hw]; exact y3)
    | (refine pE_aload_n dX8_readSign_16 rfl rfl ?_
       refine pE_callV (d' := 6) (as := []) dX8_readSign_17 lkX8_85 (cwX8_step _ _) ivX8_step ⟨_, rfl, rfl⟩ (by first | assumption | rfl) rfl rfl (Nat.le_of_ble_eq_true rfl) (by decide) pKK ?_
       refine M_X8_step hT hr (fun I2 J2 y1 y2 y3 => ?_)
       refine pE_vret dX8_readSign_20 rfl rfl ?_
       refine hq I2 J2 y1 y2 ?_
       rw [nxG, if_pos hw]; exact y3)
set_option maxHeartbeats 400000 in
set_option maxRecDepth 100000 in
theorem M_X8_readSign {l : Launch} {X : pX} {t g : Nat} {I : pHI} {J : pHJ} {Q : pQ} {n : Nat} {B : Nat → Nat} {s : pRS} {c : Nat} (hT : tpC I n B) (hr : cRd B n I J s) (hc : c < 256) (hq : ∀ I1 J1, sR2 I I1 → j4 J J1 → cRd B n I1 J1 (nxG B n c s) → Q none I1 J1 (pR t g)) : pM l X yX8_readSign mX8_readSign 7 [.ref 2, .int (nI c)] pK pK I J (pR t g) Q := by
  cases s with
  | inl e => exact M_X8_readSignE hr.1 hr.2.1 (hq I J sR2.rf j4.rf hr)
  | inr p => exact M_X8_readSignO hT hr hc hq
set_option maxHeartbeats 400000 in
set_option maxRecDepth 100000 in
theorem M_X8_isNextE {l : Launch} {X : pX} {t g : Nat} {I : pHI} {J : pHJ} {Q : pQ} {f : Nat} {i : Nat} (hf : I 2 6 = nI f) (hf2 : 1 ≤ f ∧ f ≤ 4) (hq : Q (some (.int (nI 0))) I J (pR t g)) : pM l X yX8_isNext mX8_isNext 5 [.ref 2, .ref (1000000 + 2 * i)] pK pK I J (pR t g) Q := by
  refine pM_of rfl (fun h => by cases h) rfl pKM (Nat.le_of_ble_eq_true rfl) ?_
  refine pE_aload_n dX8_isNext_0 rfl rfl ?_
  refine pE_getI dX8_isNext_1 flX8_29 rfl (Or.inl rfl) (by first | assumption | rfl) ?_
  rw [hf]
  refine pE_if_ne (tgt := 22) dX8_isNext_4 (by decide) (fun h4 => ?_) (fun h4 => ?_)
  · have g4 := nq_ne0 (by omega) h4
    refine pE_iconst (v := nI 0) dX8_isNext_22 rfl ?_
    refine pE_zret dX8_isNext_23 rfl (by first | exact Or.inl nI_0 | exact Or.inr nI_1') rfl ?_
    exact hq
  · have g4 := nq_eq0 (by omega) h4
    omega
set_option maxHeartbeats 400000 in
set_option maxRecDepth 100000 in
theorem M_X8_isNextO {l : Launch} {X : pX} {t g : Nat} {I : pHI} {J : pHJ} {Q : pQ} {n : Nat} {B : Nat → Nat} {p : Nat} {i : Nat} (hr : cRd B n I J (.inr p)) (hi : i ∈ ownI) (h1 : isW B n i (.inr p) = true → Q (some (.int (nI 1))) I J (pR t g)) (h0 : ¬ isW B n i (.inr p) = true → Q (some (.int (nI 0))) I J (pR t g)) : pM l X yX8_isNext mX8_isNext 5 [.ref 2, .ref (1000000 + 2 * i)] pK pK I J (pR t g) Q := by
  have hi19 : i < 19 := by revert hi; unfold ownI; intro hi; simp at hi; omega
  refine pM_of rfl (fun h => by cases h) rfl pKM (Nat.le_of_ble_eq_true rfl) ?_
  refine pE_aload_n dX8_isNext_0 rfl rfl ?_
  refine pE_getI dX8_isNext_1 flX8_29 rfl (Or.inl rfl) (by first | assumption | rfl) ?_
  rw [hr.1]
  refine pE_if_ne (tgt := 22) dX8_isNext_4 (by decide) (fun h4 => ?_) (fun h4 => ?_)
  · have g4 := nq_ne0 (by omega) h4
    omega
  · have g4 := nq_eq0 (by omega) h4
    refine pE_aload_n dX8_isNext_7 rfl rfl ?_
    refine pE_getR dX8_isNext_8 flX8_40 rfl (by first | assumption | rfl) (by first | assumption | rfl) ?_
    refine pE_aload_n dX8_isNext_11 rfl rfl ?_
    refine pE_callV (d' := 4) (as := [_]) dX8_isNext_12 lkX8_102 (cwX10_isWord _ _) ivX10_isWord ⟨_, rfl, rfl⟩ (by first | assumption | rfl) rfl rfl (Nat.le_of_ble_eq_true rfl) (by decide) pKK ?_
    refine M_X10_isWord hi19 (fun z1 z2 => ?_) (fun z => ?_)
    · have hw : tkWb B n p i = true := tkWb_i.mpr ((hr.2.2.2.2.word hr.2.2.1 hi).mp ⟨z1, z2⟩)
      refine pE_if_eq_f (tgt := 22) dX8_isNext_15 (by decide) nI_1n0 ?_
      refine pE_iconst (v := nI 1) dX8_isNext_18 rfl ?_
      refine pE_goto (tgt := 23) dX8_isNext_19 (by decide) ?_
      refine pE_zret dX8_isNext_23 rfl (by first | exact Or.inl nI_0 | exact Or.inr nI_1') rfl ?_
      first | exact h1 hw | exact h0 hw
    · have hw : ¬ tkWb B n p i = true := fun y => z ((hr.2.2.2.2.word hr.2.2.1 hi).mpr (tkWb_i.mp y))
      refine pE_if_eq_t (tgt := 22) dX8_isNext_15 (by decide) nI_0 ?_
      refine pE_iconst (v := nI 0) dX8_isNext_22 rfl ?_
      refine pE_zret dX8_isNext_23 rfl (by first | exact Or.inl nI_0 | exact Or.inr nI_1') rfl ?_
      first | exact h1 hw | exact h0 hw
set_option maxHeartbeats 400000 in
set_option maxRecDepth 100000 in
theorem M_X8_isNext {l : Launch} {X : pX} {t g : Nat} {I : pHI} {J : pHJ} {Q : pQ} {n : Nat} {B : Nat → Nat} {s : pRS} {i : Nat} (hr : cRd B n I J s) (hi : i ∈ ownI) (h1 : isW B n i s = true → Q (some (.int (nI 1))) I J (pR t g)) (h0 : ¬ isW B n i s = true → Q (some (.int (nI 0))) I J (pR t g)) : pM l X yX8_isNext mX8_isNext 5 [.ref 2, .ref (1000000 + 2 * i)] pK pK I J (pR t g) Q := by
  cases s with
  | inl e => exact M_X8_isNextE hr.1 hr.2.1 (h0 (by simp [isW]))
  | inr p => exact M_X8_isNextO hr hi h1 h0
set_option maxHeartbeats 400000 in
set_option maxRecDepth 100000 in
theorem M_X8_isNextSignE {l : Launch} {X : pX} {t g : Nat} {I : pHI} {J : pHJ} {Q : pQ} {f : Nat} {c : Nat} (hf : I 2 6 = nI f) (hf2 : 1 ≤ f ∧ f ≤ 4) (hq : Q (some (.int (nI 0))) I J (pR t g)) : pM l X yX8_isNextSign mX8_isNextSign 5 [.ref 2, .int (nI c)] pK pK I J (pR t g) Q := by
  refine pM_of rfl (fun h => by cases h) rfl pKM (Nat.le_of_ble_eq_true rfl) ?_
  refine pE_aload_n dX8_isNextSign_0 rfl rfl ?_
  refine pE_getI dX8_isNextSign_1 flX8_29 rfl (Or.inl rfl) (by first | assumption | rfl) ?_
  rw [hf]
  refine pE_if_ne (tgt := 22) dX8_isNextSign_4 (by decide) (fun h4 => ?_) (fun h4 => ?_)
  · have g4 := nq_ne0 (by omega) h4
    refine pE_iconst (v := nI 0) dX8_isNextSign_22 rfl ?_
    refine pE_zret dX8_isNextSign_23 rfl (by first | exact Or.inl nI_0 | exact Or.inr nI_1') rfl ?_
    exact hq
  · have g4 := nq_eq0 (by omega) h4
    omega
set_option maxHeartbeats 400000 in
set_option maxRecDepth 100000 in
theorem M_X8_isNextSignO {l : Launch} {X : pX} {t g : Nat} {I : pHI} {J : pHJ} {Q : pQ} {n : Nat} {B : Nat → Nat} {p : Nat} {c : Nat} (hr : cRd B n I J (.inr p)) (hc : c < 256) (h1 : isGn B n c (.inr p) = true → Q (some (.int (nI 1))) I J (pR t g)) (h0 : ¬ isGn B n c (.inr p) = true → Q (some (.int (nI 0))) I J (pR t g)) : pM l X yX8_isNextSign mX8_isNextSign 5 [.ref 2, .int (nI c)] pK pK I J (pR t g) Q := by
  refine pM_of rfl (fun h => by cases h) rfl pKM (Nat.le_of_ble_eq_true rfl) ?_
  refine pE_aload_n dX8_isNextSign_0 rfl rfl ?_
  refine pE_getI dX8_isNextSign_1 flX8_29 rfl (Or.inl rfl) (by first | assumption | rfl) ?_
  rw [hr.1]
  refine pE_if_ne (tgt := 22) dX8_isNextSign_4 (by decide) (fun h4 => ?_) (fun h4 => ?_)
  · have g4 := nq_ne0 (by omega) h4
    omega
  · have g4 := nq_eq0 (by omega) h4
    refine pE_aload_n dX8_isNextSign_7 rfl rfl ?_
    refine pE_getR dX8_isNextSign_8 flX8_40 rfl (by first | assumption | rfl) (by first | assumption | rfl) ?_
    refine pE_iload_n dX8_isNextSign_11 rfl rfl ?_
    refine pE_callV (d' := 0) (as := [_]) dX8_isNextSign_12 lkX8_166 (cwX10_isSign _ _) ivX10_isSign ⟨_, rfl, rfl⟩ (by first | assumption | rfl) rfl rfl (Nat.le_of_ble_eq_true rfl) (by decide) pKK ?_
    refine M_X10_isSign  (fun z1 z2 => ?_) (fun z => ?_)
    · have hw : tkGb B n p c = true := (hr.2.2.2.2.sign hr.2.2.1 hc).mp ⟨z1, z2⟩
      refine pE_if_eq_f (tgt := 22) dX8_isNextSign_15 (by decide) nI_1n0 ?_
      refine pE_iconst (v := nI 1) dX8_isNextSign_18 rfl ?_
      refine pE_goto (tgt := 23) dX8_isNextSign_19 (by decide) ?_
      refine pE_zret dX8_isNextSign_23 rfl (by first | exact Or.inl nI_0 | exact Or.inr nI_1') rfl ?_
      first | exact h1 hw | exact h0 hw
    · have hw : ¬ tkGb B n p c = true := fun y => z ((hr.2.2.2.2.sign hr.2.2.1 hc).mpr y)
      refine pE_if_eq_t (tgt := 22) dX8_isNextSign_15 (by decide) nI_0 ?_
      refine pE_iconst (v := nI 0) dX8_isNextSign_22 rfl ?_
      refine pE_zret dX8_isNextSign_23 rfl (by first | exact Or.inl nI_0 | exact Or.inr nI_1') rfl ?_
      first | exact h1 hw | exact h0 hw
set_option maxHeartbeats 400000 in
set_option maxRecDepth 100000 in
theorem M_X8_isNextSign {l : Launch} {X : pX} {t g : Nat} {I : pHI} {J : pHJ} {Q : pQ} {n : Nat} {B : Nat → Nat} {s : pRS} {c : Nat} (hr : cRd B n I J s) (hc : c < 256) (h1 : isGn B n c s = true → Q (some (.int (nI 1))) I J (pR t g)) (h0 : ¬ isGn B n c s = true → Q (some (.int (nI 0))) I J (pR t g)) : pM l X yX8_isNextSign mX8_isNextSign 5 [.ref 2, .int (nI c)] pK pK I J (pR t g) Q := by
  cases s with
  | inl e => exact M_X8_isNextSignE hr.1 hr.2.1 (h0 (by simp [isGn]))
  | inr p => exact M_X8_isNextSignO hr hc h1 h0
