/-! the class's lines, read into the HOUSE o *) -/
def jL (J J1 : pHJ) : Prop := ∀ c k, ¬ (c = 4 ∧ k = 7) → c ≠ 3 → J1 c k = J c k
theorem jL.rf {J : pHJ} : jL J J := fun _ _ _ _ => rfl
theorem jL.tr {J J1 J2 : pHJ} (h1 : jL J J1) (h2 : jL J1 J2) : jL J J2 := fun c k a b => (h2 c k a b).trans (h1 c k a b)
theorem j4.l {J J1 : pHJ} (h : j4 J J1) : jL J J1 := fun c k a _ => h c k a
theorem jL.p3 {J J1 : pHJ} {k : Nat} {x : Int64} (h : jL J J1) : jL J (pu J1 3 k x) := fun c j a b => by
  rw [pu_at, if_neg (fun q => b q.1)]; exact h c j a b
def sRL (o : Nat) (I I1 : pHI) : Prop := ∀ c k, ¬ (c = 4 ∧ 2 ≤ k) → ¬ (c = 2 ∧ 2 ≤ k) → ¬ (o ≤ c ∧ c ≤ o + 13) → I1 c k = I c k
theorem sRL.rf {o : Nat} {I : pHI} : sRL o I I := fun _ _ _ _ _ => rfl
theorem sRL.tr {o : Nat} {I I1 I2 : pHI} (h1 : sRL o I I1) (h2 : sRL o I1 I2) : sRL o I I2 := fun c k a b d => (h2 c k a b d).trans (h1 c k a b d)
theorem sR2.L {o : Nat} {I I1 : pHI} (h : sR2 I I1) : sRL o I I1 := fun c k a b _ => h c k a (fun q => b ⟨q.1, by omega⟩)
theorem sRL.hp {o c k : Nat} {I I1 : pHI} {x : Int32} (h : sRL o I I1) (hc : o ≤ c ∧ c ≤ o + 13) : sRL o I (pu I1 c k x) := fun c' j a b d => by
  rw [pu_at, if_neg (fun q => d (by rw [q.1]; exact hc))]; exact h c' j a b d
theorem sRL.h2 {o k : Nat} {I I1 : pHI} {x : Int32} (h : sRL o I I1) (hk : 2 ≤ k) : sRL o I (pu I1 2 k x) := fun c' j a b d => by
  rw [pu_at, if_neg (fun q => b ⟨q.1, by omega⟩)]; exact h c' j a b d
theorem isH_b {o : Nat} (h : isH o) : 5 ≤ o ∧ o ≤ 19 ∧ (o = 5 ∨ o = 19) := by rcases h with rfl | rfl <;> omega
theorem sR3.L {o f : Nat} {I I1 : pHI} (h : sR3 f I I1) (hf : f = o + 6 ∨ f = o + 10) : sRL o I I1 := fun c k a b d => h c k a (fun q => b ⟨q.1, by omega⟩) (fun q => d (by omega)) (fun q => d (by omega)) (fun q => d (by omega))
theorem tpC.L {o n : Nat} {I I1 : pHI} {B : Nat → Nat} (h : tpC I n B) (ho : isH o) (hx : sRL o I I1) : tpC I1 n B := by
  have hb := isH_b ho
  exact ⟨by rw [hx 4 1 (by omega) (by omega) (by omega)]; exact h.1, h.2.1, fun i hi => by rw [hx 1 i (by omega) (by omega) (by omega)]; exact h.2.2 i hi⟩
def cNm (L : List (List Nat)) (J : pHJ) : Prop := ∀ k w, L[k]? = some w → J 3 k = cwJ w
theorem cNm.j4 {L : List (List Nat)} {J J1 : pHJ} (h : cNm L J) (hx : j4 J J1) : cNm L J1 := fun k w e => (hx 3 k (by omega)).trans (h k w e)
theorem cNm.app {L : List (List Nat)} {w : List Nat} {J : pHJ} (h : cNm L J) : cNm (L ++ [w]) (pu J 3 L.length (cwJ w)) := fun k v e => by
  rw [pu_at]
  by_cases c : k = L.length
  · subst c
    rw [List.getElem?_append_right (Nat.le_refl _), Nat.sub_self] at e
    cases e
    rw [if_pos ⟨rfl, rfl⟩]
  · have hl := (List.getElem?_eq_some_iff.mp e).1
    rw [List.length_append, List.length_singleton] at hl
    rw [List.getElem?_append_left (by omega)] at e
    rw [if_neg (by omega)]
    exact h k v e
theorem cRd.J {B : Nat → Nat} {n : Nat} {I : pHI} {J J1 : pHJ} {s : pRS} (h : cRd B n I J s) (hj : J1 4 7 = J 4 7) : cRd B n I J1 s := by
  cases s with
  | inl e => exact h
  | inr q =>
    obtain ⟨a, b, c, d, e1, e2, e3, e4, e5, e6⟩ := h
    exact ⟨a, b, c, d, e1, e2, e3, e4, e5, fun z => hj.trans (e6 z)⟩
/-- whether the name stands among the first so many -/
def nmT (B : Nat → Nat) (n p : Nat) (L : List (List Nat)) (j : Nat) : pRS := if (L.take j).contains (tL B n p) = true then .inl (3, tQ B n p) else .inr p
theorem nmT_s {B : Nat → Nat} {n p j : Nat} {L : List (List Nat)} {w : List Nat} (h : L[j]? = some w) : nmT B n p L (j + 1) = if w = tL B n p then flr B n 3 (nmT B n p L j) else nmT B n p L j := by
  have hl := (List.getElem?_eq_some_iff.mp h)
  obtain ⟨h1, h2⟩ := hl
  unfold nmT
  rw [List.take_succ, h]
  simp only [Option.toList, List.contains_append]
  by_cases c : w = tL B n p
  · rw [if_pos c, c]
    have : ([tL B n p] : List (List Nat)).contains (tL B n p) = true := by simp
    rw [this, Bool.or_true, if_pos rfl]
    by_cases d : (L.take j).contains (tL B n p) = true
    · rw [if_pos d]; rfl
    · rw [if_neg d]; rfl
  · rw [if_neg c]
    have : ([w] : List (List Nat)).contains (tL B n p) = false := by
      simp only [List.contains_cons, List.contains_nil, Bool.or_false, beq_eq_false_iff_ne]
      exact fun z => c z.symm
    rw [this, Bool.or_false]
set_option maxHeartbeats 400000 in
set_option maxRecDepth 100000 in
theorem L_X8_readNameE {l : Launch} {X : pX} {t g : Nat} {I : pHI} {J : pHJ} {Q : pQ} {f m : Nat} (hf : I 2 6 = nI f) (hf2 : 1 ≤ f ∧ f ≤ 4) (hm : m < 8) (hq : ∀ J1, jL J J1 → Q none I J1 (pR t g)) : ∀ (fu : Nat) (j : Nat), m - j < fu → (j ≤ m) → pE l X mX8_readName 7 pK 18 [some (.ref 2), some (.int (nI m)), some (.int (nI j))] [] pK I J (pR t g) Q := by
  intro fu
  induction fu with
  | zero => intro j hn; exact absurd hn (Nat.not_lt_zero _)
  | succ fu ih =>
    intro j hn hj
    refine pE_iload_n dX8_readName_18 rfl rfl ?_
    refine pE_iload_n dX8_readName_19 rfl rfl ?_
    refine pE_icmp_ge (tgt := 57) dX8_readName_20 (by decide) (fun h20 => ?_) (fun h20 => ?_)
    · have g20 := nq_le (by omega) (by omega) h20
      refine pE_iload_n dX8_readName_57 rfl rfl ?_
      refine pE_if_lt (tgt := 80) dX8_readName_58 (by decide) (fun h58 => ?_) (fun h58 => ?_)
      · exact absurd h58 (nI_pos (by omega))
      · refine pE_iload_n dX8_readName_61 rfl rfl ?_
        refine pE_bipush (v := nI 8) dX8_readName_62 rfl ?_
        refine pE_icmp_ge (tgt := 80) dX8_readName_64 (by decide) (fun h64 => ?_) (fun h64 => ?_)
        · have g64 := nq_le (by omega) (by omega) h64
          omega
        · have g64 := nq_nle (by omega) (by omega) h64
          refine pE_aload_n dX8_readName_67 rfl rfl ?_
          refine pE_getR dX8_readName_68 flX8_9 rfl (by first | assumption | rfl) (by first | assumption | rfl) ?_
          refine pE_iload_n dX8_readName_71 rfl rfl ?_
          refine pE_aload_n dX8_readName_72 rfl rfl ?_
          refine pE_getR dX8_readName_73 flX8_40 rfl (by first | assumption | rfl) (by first | assumption | rfl) ?_
          refine pE_getJ dX8_readName_76 flX8_159 rfl (by first | assumption | rfl) ?_
          refine pE_lastoreN dX8_readName_79 (by first | assumption | rfl) (by first | assumption | omega) (by omega) ?_
          refine pE_aload_n dX8_readName_80 rfl rfl ?_
          refine pE_callV (d' := 6) (as := []) dX8_readName_81 lkX8_85 (cwX8_step _ _) ivX8_step ⟨_, rfl, rfl⟩ (by first | assumption | rfl) rfl rfl (Nat.le_of_ble_eq_true rfl) (by decide) pKK ?_
          refine M_X8_stepE hf hf2 ?_
          refine pE_vret dX8_readName_84 rfl rfl ?_
          exact hq _ jL.rf.p3
    · have g20 := nq_nle (by omega) (by omega) h20
      refine pE_iload_n dX8_readName_23 rfl rfl ?_
      refine pE_bipush (v := nI 8) dX8_readName_24 rfl ?_
      refine pE_icmp_ge (tgt := 57) dX8_readName_26 (by decide) (fun h26 => ?_) (fun h26 => ?_)
      · have g26 := nq_le (by omega) (by omega) h26
        omega
      · have g26 := nq_nle (by omega) (by omega) h26
        refine pE_aload_n dX8_readName_29 rfl rfl ?_
        refine pE_getR dX8_readName_30 flX8_9 rfl (by first | assumption | rfl) (by first | assumption | rfl) ?_
        refine pE_iload_n dX8_readName_33 rfl rfl ?_
        refine pE_laloadN dX8_readName_34 (by first | assumption | rfl) (by first | assumption | omega) (by omega) ?_
        refine pE_aload_n dX8_readName_35 rfl rfl ?_
        refine pE_getR dX8_readName_36 flX8_40 rfl (by first | assumption | rfl) (by first | assumption | rfl) ?_
        refine pE_getJ dX8_readName_39 flX8_159 rfl (by first | assumption | rfl) ?_
        refine pE_lcmp dX8_readName_42 ?_
        refine pE_if_ne (tgt := 51) dX8_readName_43 (by decide) (fun h43 => ?_) (fun h43 => ?_)
        · refine pE_iincN (c0 := 1) (lc' := [_, _, some (.int _)]) dX8_readName_51 rfl rfl rfl rfl ?_
          refine pE_goto (tgt := 18) dX8_readName_54 (by decide) ?_
          exact ih (j + 1) (by omega) (by omega)
        · refine pE_aload_n dX8_readName_46 rfl rfl ?_
          refine pE_iconst (v := nI 3) dX8_readName_47 rfl ?_
          refine pE_callV (d' := 0) (as := [_]) dX8_readName_48 lkX8_82 (cwX8_fail _ _) ivX8_fail ⟨_, rfl, rfl⟩ (by first | assumption | rfl) rfl rfl (Nat.le_of_ble_eq_true rfl) (by decide) pKK ?_
          refine M_X8_failE hf hf2 ?_
          refine pE_iincN (c0 := 1) (lc' := [_, _, some (.int _)]) dX8_readName_51 rfl rfl rfl rfl ?_
          refine pE_goto (tgt := 18) dX8_readName_54 (by decide) ?_
          exact ih (j + 1) (by omega) (by omega)
set_option maxHeartbeats 400000 in
set_option maxRecDepth 100000 in
theorem M_X8_readNameE {l : Launch} {X : pX} {t g : Nat} {I : pHI} {J : pHJ} {Q : pQ} {f m : Nat} (hf : I 2 6 = nI f) (hf2 : 1 ≤ f ∧ f ≤ 4) (hm : m < 8) (hq : ∀ J1, jL J J1 → Q none I J1 (pR t g)) : pM l X yX8_readName mX8_readName 7 [.ref 2, .int (nI m)] pK pK I J (pR t g) Q := by
  refine pM_of rfl (fun h => by cases h) rfl pKM (Nat.le_of_ble_eq_true rfl) ?_
  refine pE_aload_n dX8_readName_0 rfl rfl ?_
  refine pE_getR dX8_readName_1 flX8_40 rfl (by first | assumption | rfl) (by first | assumption | rfl) ?_
  refine pE_callV (d' := 5) (as := []) dX8_readName_4 lkX8_156 (cwX10_isName _ _) ivX10_isName ⟨_, rfl, rfl⟩ (by first | assumption | rfl) rfl rfl (Nat.le_of_ble_eq_true rfl) (by decide) pKK ?_
  refine M_X10_isName  (fun z1 z2 => ?_) (fun z => ?_)
  · refine pE_if_ne_t (tgt := 16) dX8_readName_7 (by decide) nI_1n0 ?_
    refine pE_iconst (v := nI 0) dX8_readName_16 rfl ?_
    refine pE_istore_n (lc' := [_, _, some (.int _)]) dX8_readName_17 rfl (Nat.le_of_ble_eq_true rfl) rfl rfl ?_
    exact L_X8_readNameE hf hf2 hm hq (m + 1) 0 (by omega) (by omega)
  · refine pE_if_ne_f (tgt := 16) dX8_readName_7 (by decide) nI_0 ?_
    refine pE_aload_n dX8_readName_10 rfl rfl ?_
    refine pE_iconst (v := nI 2) dX8_readName_11 rfl ?_
    refine pE_callV (d' := 0) (as := [_]) dX8_readName_12 lkX8_82 (cwX8_fail _ _) ivX8_fail ⟨_, rfl, rfl⟩ (by first | assumption | rfl) rfl rfl (Nat.le_of_ble_eq_true rfl) (by decide) pKK ?_
    refine M_X8_failE hf hf2 ?_
    refine pE_vret dX8_readName_15 rfl rfl ?_
    exact hq J jL.rf
def sp1 (B : Nat → Nat) (n : Nat) : pRS → pRS
  | .inl e => .inl e
  | .inr p => stp B n p
set_option maxHeartbeats 400000 in
set_option maxRecDepth 100000 in
theorem M_X8_stepR {l : Launch} {X : pX} {t g : Nat} {I : pHI} {J : pHJ} {Q : pQ} {n : Nat} {B : Nat → Nat} {s : pRS} (hT : tpC I n B) (hr : cRd B n I J s) (hq : ∀ I1 J1, sR2 I I1 → j4 J J1 → cRd B n I1 J1 (sp1 B n s) → Q none I1 J1 (pR t g)) : pM l X yX8_step mX8_step 6 [.ref 2] pK pK I J (pR t g) Q := by
  cases s with
  | inl e => exact M_X8_stepE hr.1 hr.2.1 (hq I J sR2.rf j4.rf hr)
  | inr p => exact M_X8_stepO hT hr hq
set_option maxHeartbeats 400000 in
set_option maxRecDepth 100000 in
theorem L_X8_readNameO {l : Launch} {X : pX} {t g : Nat} {I : pHI} {J : pHJ} {Q : pQ} {n p : Nat} {B : Nat → Nat} {L : List (List Nat)} (hT : tpC I n B) (hL : cNm L J) (hok : ∀ w, w ∈ L → okW w) (hl : L.length < 8) (hp : p ≤ n) (hk2 : tK B n p = 2) (h47 : J 4 7 = cwJ (tL B n p)) (hq : ∀ I1 J1, sR2 I I1 → jL J J1 → cRd B n I1 J1 (sp1 B n (nmT B n p L L.length)) → cNm (L ++ [tL B n p]) J1 → Q none I1 J1 (pR t g)) : ∀ (fu : Nat) (j : Nat) (I1 : pHI), L.length - j < fu → (j ≤ L.length) → (sR2 I I1) → (cRd B n I1 J (nmT B n p L j)) → pE l X mX8_readName 7 pK 18 [some (.ref 2), some (.int (nI L.length)), some (.int (nI j))] [] pK I1 J (pR t g) Q := by
  intro fu
  induction fu with
  | zero => intro j I1 hn; exact absurd hn (Nat.not_lt_zero _)
  | succ fu ih =>
    intro j I1 hn hj hx hv
    refine pE_iload_n dX8_readName_18 rfl rfl ?_
    refine pE_iload_n dX8_readName_19 rfl rfl ?_
    refine pE_icmp_ge (tgt := 57) dX8_readName_20 (by decide) (fun h20 => ?_) (fun h20 => ?_)
    · have g20 := nq_le (by omega) (by omega) h20
      refine pE_iload_n dX8_readName_57 rfl rfl ?_
      refine pE_if_lt (tgt := 80) dX8_readName_58 (by decide) (fun h58 => ?_) (fun h58 => ?_)
      · exact absurd h58 (nI_pos (by omega))
      · refine pE_iload_n dX8_readName_61 rfl rfl ?_
        refine pE_bipush (v := nI 8) dX8_readName_62 rfl ?_
        refine pE_icmp_ge (tgt := 80) dX8_readName_64 (by decide) (fun h64 => ?_) (fun h64 => ?_)
        · have g64 := nq_le (by omega) (by omega) h64
          omega
        · have g64 := nq_nle (by omega) (by omega) h64
          have ej : j = L.length := by omega
          subst ej
          refine pE_aload_n dX8_readName_67 rfl rfl ?_
          refine pE_getR dX8_readName_68 flX8_9 rfl (by first | assumption | rfl) (by first | assumption | rfl) ?_
          refine pE_iload_n dX8_readName_71 rfl rfl ?_
          refine pE_aload_n dX8_readName_72 rfl rfl ?_
          refine pE_getR dX8_readName_73 flX8_40 rfl (by first | assumption | rfl) (by first | assumption | rfl) ?_
          refine pE_getJ dX8_readName_76 flX8_159 rfl (by first | assumption | rfl) ?_
          refine pE_lastoreN dX8_readName_79 (by first | assumption | rfl) (by first | assumption | omega) (by omega) ?_
          refine pE_aload_n dX8_readName_80 rfl rfl ?_
          refine pE_callV (d' := 6) (as := []) dX8_readName_81 lkX8_85 (cwX8_step _ _) ivX8_step ⟨_, rfl, rfl⟩ (by first | assumption | rfl) rfl rfl (Nat.le_of_ble_eq_true rfl) (by decide) pKK ?_
          refine M_X8_stepR (hT.r hx) (hv.J (by rw [pu_at, if_neg (by omega)])) (fun I2 J2 x1 y1 x2 => ?_)
          refine pE_vret dX8_readName_84 rfl rfl ?_
          refine hq I2 J2 (hx.tr x1) (jL.rf.p3.tr y1.l) x2 ?_
          have := (hL.app (w := tL B n p))
          rw [← h47] at this
          exact this.j4 y1
    · have g20 := nq_nle (by omega) (by omega) h20
      refine pE_iload_n dX8_readName_23 rfl rfl ?_
      refine pE_bipush (v := nI 8) dX8_readName_24 rfl ?_
      refine pE_icmp_ge (tgt := 57) dX8_readName_26 (by decide) (fun h26 => ?_) (fun h26 => ?_)
      · have g26 := nq_le (by omega) (by omega) h26
        omega
      · have g26 := nq_nle (by omega) (by omega) h26
        obtain ⟨w, hw⟩ : ∃ w, L[j]? = some w := ⟨_, List.getElem?_eq_getElem (by omega)⟩
        have hJ := hL j w hw
        have hs := nmT_s (B := B) (n := n) (p := p) hw
        have hww := cwJ_inj (hok w (List.mem_of_getElem? hw)) (tL_ok hp hk2)
        refine pE_aload_n dX8_readName_29 rfl rfl ?_
        refine pE_getR dX8_readName_30 flX8_9 rfl (by first | assumption | rfl) (by first | assumption | rfl) ?_
        refine pE_iload_n dX8_readName_33 rfl rfl ?_
        refine pE_laloadN dX8_readName_34 (by first | assumption | rfl) (by first | assumption | omega) (by omega) ?_
        refine pE_aload_n dX8_readName_35 rfl rfl ?_
        refine pE_getR dX8_readName_36 flX8_40 rfl (by first | assumption | rfl) (by first | assumption | rfl) ?_
        refine pE_getJ dX8_readName_39 flX8_159 rfl (by first | assumption | rfl) ?_
        refine pE_lcmp dX8_readName_42 ?_
        refine pE_if_ne (tgt := 51) dX8_readName_43 (by decide) (fun h43 => ?_) (fun h43 => ?_)
        · refine pE_iincN (c0 := 1) (lc' := [_, _, some (.int _)]) dX8_readName_51 rfl rfl rfl rfl ?_
          refine pE_goto (tgt := 18) dX8_readName_54 (by decide) ?_
          first
          | (have z9 := x2
             refine ih (j + 1) _ (by omega) (by omega) (hx.tr x1) ?_
             have e : w = tL B n p := hww.mp (by rw [← hJ, ← h47]; exact (lg_cmp_eq _ _).mp h43)
             rw [hs, if_pos e]; exact x2)
          | (refine ih (j + 1) _ (by omega) (by omega) hx ?_
             have e : ¬ w = tL B n p := fun z => h43 ((lg_cmp_eq _ _).mpr (by rw [hJ, h47]; exact hww.mpr z))
             rw [hs, if_neg e]; exact hv)
        · refine pE_aload_n dX8_readName_46 rfl rfl ?_
          refine pE_iconst (v := nI 3) dX8_readName_47 rfl ?_
          refine pE_callV (d' := 0) (as := [_]) dX8_readName_48 lkX8_82 (cwX8_fail _ _) ivX8_fail ⟨_, rfl, rfl⟩ (by first | assumption | rfl) rfl rfl (Nat.le_of_ble_eq_true rfl) (by decide) pKK ?_
          refine M_X8_fail (hT.r hx) hv (by omega) (fun I2 x1 x2 => ?_)
          refine pE_iincN (c0 := 1) (lc' := [_, _, some (.int _)]) dX8_readName_51 rfl rfl rfl rfl ?_
          refine pE_goto (tgt := 18) dX8_readName_54 (by decide) ?_
          first
          | (have z9 := x2
             refine ih (j + 1) _ (by omega) (by omega) (hx.tr x1) ?_
             have e : w = tL B n p := hww.mp (by rw [← hJ, ← h47]; exact (lg_cmp_eq _ _).mp h43)
             rw [hs, if_pos e]; exact x2)
          | (refine ih (j + 1) _ (by omega) (by omega) hx ?_
             have e : ¬ w = tL B n p := fun z => h43 ((lg_cmp_eq _ _).mpr (by rw [hJ, h47]; exact hww.mpr z))
             rw [hs, if_neg e]; exact hv)
set_option maxHeartbeats 400000 in
set_option maxRecDepth 100000 in
theorem M_X8_readNameO {l : Launch} {X : pX} {t g : Nat} {I : pHI} {J : pHJ} {Q : pQ} {n p : Nat} {B : Nat → Nat} {L : List (List Nat)} (hT : tpC I n B) (hL : cNm L J) (hok : ∀ w, w ∈ L → okW w) (hl : L.length < 8) (hr : cRd B n I J (.inr p)) (hq : ∀ I1 J1, sR2 I I1 → jL J J1 → cRd B n I1 J1 (nmS B n L (.inr p)) → (∀ q, nmS B n L (.inr p) = .inr q → cNm (L ++ [tL B n p]) J1) → Q none I1 J1 (pR t g)) : pM l X yX8_readName mX8_readName 7 [.ref 2, .int (nI L.length)] pK pK I J (pR t g) Q := by
  have hp := hr.2.2.1
  have hkl := tK_le (B := B) hp
  have hkk := hr.2.2.2.2.1
  refine pM_of rfl (fun h => by cases h) rfl pKM (Nat.le_of_ble_eq_true rfl) ?_
  refine pE_aload_n dX8_readName_0 rfl rfl ?_
  refine pE_getR dX8_readName_1 flX8_40 rfl (by first | assumption | rfl) (by first | assumption | rfl) ?_
  refine pE_callV (d' := 5) (as := []) dX8_readName_4 lkX8_156 (cwX10_isName _ _) ivX10_isName ⟨_, rfl, rfl⟩ (by first | assumption | rfl) rfl rfl (Nat.le_of_ble_eq_true rfl) (by decide) pKK ?_
  refine M_X10_isName  (fun z1 z2 => ?_) (fun z => ?_)
  · have hk2 : tK B n p = 2 := nq_eq (by omega) (by omega) (hkk.symm.trans z1)
    have h47 := hr.2.2.2.2.2.2.2.2.2 hk2
    have hnm : isNm B n p = true := isNm_of hk2 (fun i hi y => z2 i hi ((hr.2.2.2.2.word hp hi).mpr (tkWb_i.mp y)).2)
    refine pE_if_ne_t (tgt := 16) dX8_readName_7 (by decide) nI_1n0 ?_
    refine pE_iconst (v := nI 0) dX8_readName_16 rfl ?_
    refine pE_istore_n (lc' := [_, _, some (.int _)]) dX8_readName_17 rfl (Nat.le_of_ble_eq_true rfl) rfl rfl ?_
    refine L_X8_readNameO hT hL hok hl hp hk2 h47 (fun I1 J1 x1 y1 z1 w1 => hq I1 J1 x1 y1 ?_ (fun _ _ => w1)) (L.length + 1) 0 I (by omega) (by omega) sR2.rf ?_
    · rw [nmS, if_pos hnm]
      rw [nmT, List.take_length] at z1
      by_cases d : L.contains (tL B n p) = true
      · rw [if_pos d] at z1 ⊢; exact z1
      · rw [if_neg d] at z1 ⊢; exact z1
    · rw [nmT, List.take_zero, if_neg (by simp)]; exact hr
  · have hnm : ¬ isNm B n p = true := fun y => by
      have k := isNm_y y
      rcases z with z | ⟨i, hi, z⟩
      · exact z (by rw [hkk, k.1])
      · exact k.2 i hi (tkWb_i.mpr ((hr.2.2.2.2.word hp hi).mp ⟨by rw [hkk, k.1], z⟩))
    refine pE_if_ne_f (tgt := 16) dX8_readName_7 (by decide) nI_0 ?_
    refine pE_aload_n dX8_readName_10 rfl rfl ?_
    refine pE_iconst (v := nI 2) dX8_readName_11 rfl ?_
    refine pE_callV (d' := 0) (as := [_]) dX8_readName_12 lkX8_82 (cwX8_fail _ _) ivX8_fail ⟨_, rfl, rfl⟩ (by first | assumption | rfl) rfl rfl (Nat.le_of_ble_eq_true rfl) (by decide) pKK ?_
    refine M_X8_fail hT hr (by omega) (fun I1 x1 x2 => ?_)
    refine pE_vret dX8_readName_15 rfl rfl ?_
    refine hq I1 J x1 jL.rf ?_ (fun q e => ?_)
    · rw [nmS, if_neg hnm]; exact x2
    · rw [nmS, if_neg hnm] at e; cases e
set_option maxHeartbeats 400000 in
set_option maxRecDepth 100000 in
theorem M_X8_readName {l : Launch} {X : pX} {t g : Nat} {I : pHI} {J : pHJ} {Q : pQ} {n : Nat} {B : Nat → Nat} {L : List (List Nat)} {s : pRS} (hT : tpC I n B) (hL : cNm L J) (hok : ∀ w, w ∈ L → okW w) (hl : L.length < 8) (hr : cRd B n I J s) (hq : ∀ I1 J1, sR2 I I1 → jL J J1 → cRd B n I1 J1 (nmS B n L s) → (∀ q, nmS B n L s = .inr q → cNm (L ++ [nmL B n s]) J1) → Q none I1 J1 (pR t g)) : pM l X yX8_readName mX8_readName 7 [.ref 2, .int (nI L.length)] pK pK I J (pR t g) Q := by
  cases s with
  | inl e => exact M_X8_readNameE hr.1 hr.2.1 hl (fun J1 y => hq I J1 sR2.rf y hr (fun q z => by cases z))
  | inr p => exact M_X8_readNameO hT hL hok hl hr hq
