/-! the class's reading of a formula f: states as the grammar has them -/
def rsO : pPS → pRS
  | .inl e => .inl e
  | .inr x => .inr x.1
def cPs (B : Nat → Nat) (n f : Nat) (I : pHI) (J : pHJ) : pPS → Prop
  | .inl e => cRd B n I J (.inl e)
  | .inr x => cRd B n I J (.inr x.1) ∧ I 2 2 = nI x.2.2 ∧ x.2.2 ≤ 30 ∧ cG f x.2.1 I
theorem cPs.rd {B : Nat → Nat} {n f : Nat} {I : pHI} {J : pHJ} {s : pPS} (h : cPs B n f I J s) : cRd B n I J (rsO s) := by
  cases s with
  | inl e => exact h
  | inr x => exact h.1
theorem tpC.r3 {I I1 : pHI} {n f : Nat} {B : Nat → Nat} (h : tpC I n B) (hf : isF f) (hx : sR3 f I I1) : tpC I1 n B := by
  have hb := isF_b hf
  exact ⟨by rw [hx 4 1 (by omega) (by omega) (by omega) (by omega) (by omega)]; exact h.1, h.2.1, fun i hi => by rw [hx 1 i (by omega) (by omega) (by omega) (by omega) (by omega)]; exact h.2.2 i hi⟩
theorem cRd.fr {B : Nat → Nat} {n : Nat} {I I1 : pHI} {J : pHJ} {s : pRS} (h : cRd B n I J s) (h4 : ∀ k, I1 4 k = I 4 k) (h6 : I1 2 6 = I 2 6) (h7 : I1 2 7 = I 2 7) : cRd B n I1 J s := by
  cases s with
  | inl e => exact ⟨h6.trans h.1, h.2.1, h7.trans h.2.2.1, h.2.2.2⟩
  | inr q =>
    obtain ⟨a, b, c, d, e1, e2, e3, e4, e5, e6⟩ := h
    exact ⟨h6.trans a, h7.trans b, c, d, (h4 _).trans e1, (h4 _).trans e2, (h4 _).trans e3, fun z => (h4 _).trans (e4 z), (h4 _).trans e5, e6⟩
theorem cPs.add {B : Nat → Nat} {n f : Nat} {I I1 : pHI} {J : pHJ} {s : pPS} {q : Nat × Nat} (hf : isF f) (h : cPs B n f I J s) (hx : sGf f I I1) (hg : ∀ o, cG f o I → cG f (o ++ [q]) I1) : cPs B n f I1 J (adS q s) := by
  have hb := isF_b hf
  have h4 : ∀ k, I1 4 k = I 4 k := fun k => hx 4 k (by omega) (by omega) (by omega)
  have h2 : ∀ k, I1 2 k = I 2 k := fun k => hx 2 k (by omega) (by omega) (by omega)
  cases s with
  | inl e => exact cRd.fr (B := B) (n := n) (J := J) (s := .inl e) h h4 (h2 6) (h2 7)
  | inr x => exact ⟨h.1.fr h4 (h2 6) (h2 7), (h2 2).trans h.2.1, h.2.2.1, hg _ h.2.2.2⟩
theorem cG.r2 {f : Nat} {o : pP} {I I1 : pHI} (h : cG f o I) (hf : isF f) (hx : sR2 I I1) : cG f o I1 := by
  have hb := isF_b hf
  exact h.fr (hx f 2 (by omega) (by omega)) (fun i => hx (f + 1) i (by omega) (by omega)) (fun i => hx (f + 2) i (by omega) (by omega))
/-- the reader alone went on -/
theorem cPs.li {B : Nat → Nat} {n f : Nat} {I I1 : pHI} {J J1 : pHJ} {x : Nat × pP × Nat} {s : pRS} (hf : isF f) (h : cPs B n f I J (.inr x)) (hx : sR2 I I1) (hr : cRd B n I1 J1 s) : cPs B n f I1 J1 (liS x.2.1 x.2.2 s) := by
  cases s with
  | inl e => exact hr
  | inr q => exact ⟨hr, (hx 2 2 (by omega) (by omega)).trans h.2.1, h.2.2.1, h.2.2.2.r2 hf hx⟩
def pRC (l : Launch) (X : pX) (t g : Nat) (B : Nat → Nat) (n f : Nat) (y : MethodName) (md : pMd) (D e : Nat) (fn : pPS → pPS) : Prop :=
  ∀ (I : pHI) (J : pHJ) (Q : pQ) (s : pPS), tpC I n B → cPs B n f I J s → (∀ I1 J1, sR3 f I I1 → j4 J J1 → cPs B n f I1 J1 (fn s) → Q none I1 J1 (pR t g)) → pM l X y md D [.ref 2, .ref f, .int (nI e)] pK pK I J (pR t g) Q
set_option maxHeartbeats 400000 in
set_option maxRecDepth 100000 in
theorem M_X8_stepS {l : Launch} {X : pX} {t g : Nat} {I : pHI} {J : pHJ} {Q : pQ} {n f : Nat} {B : Nat → Nat} {s : pPS} (hf : isF f) (hT : tpC I n B) (hv : cPs B n f I J s) (hq : ∀ I1 J1, sR3 f I I1 → j4 J J1 → cPs B n f I1 J1 (stS B n s) → Q none I1 J1 (pR t g)) : pM l X yX8_step mX8_step 6 [.ref 2] pK pK I J (pR t g) Q := by
  refine M_X8_step hT hv.rd (fun I1 J1 x y z => hq I1 J1 x.r3 y ?_)
  cases s with
  | inl e => exact z
  | inr q => exact hv.li hf x z
set_option maxHeartbeats 400000 in
set_option maxRecDepth 100000 in
theorem M_X8_failS {l : Launch} {X : pX} {t g : Nat} {I : pHI} {J : pHJ} {Q : pQ} {n f : Nat} {B : Nat → Nat} {s : pPS} (hT : tpC I n B) (hv : cPs B n f I J s) (hq : ∀ I1, sR3 f I I1 → cPs B n f I1 J (f2S B n s) → Q none I1 J (pR t g)) : pM l X yX8_fail mX8_fail 0 [.ref 2, .int (nI 2)] pK pK I J (pR t g) Q := by
  refine M_X8_fail hT hv.rd (by omega) (fun I1 x z => hq I1 x.r3 ?_)
  cases s with
  | inl e => exact z
  | inr q => exact z
set_option maxHeartbeats 400000 in
set_option maxRecDepth 100000 in
theorem M_X8_readSignS {l : Launch} {X : pX} {t g : Nat} {I : pHI} {J : pHJ} {Q : pQ} {n f c : Nat} {B : Nat → Nat} {s : pPS} (hf : isF f) (hT : tpC I n B) (hv : cPs B n f I J s) (hc : c < 256) (hq : ∀ I1 J1, sR3 f I I1 → j4 J J1 → cPs B n f I1 J1 (ngS B n c s) → Q none I1 J1 (pR t g)) : pM l X yX8_readSign mX8_readSign 7 [.ref 2, .int (nI c)] pK pK I J (pR t g) Q := by
  refine M_X8_readSign hT hv.rd hc (fun I1 J1 x y z => hq I1 J1 x.r3 y ?_)
  cases s with
  | inl e => exact z
  | inr q => exact hv.li hf x z
set_option maxHeartbeats 400000 in
set_option maxRecDepth 100000 in
theorem M_X1_addS {l : Launch} {X : pX} {t g : Nat} {I : pHI} {J : pHJ} {Q : pQ} {n f k : Nat} {B : Nat → Nat} {s : pPS} (hf : isF f) (hv : cPs B n f I J s) (hq : ∀ I1, sR3 f I I1 → cPs B n f I1 J (adS (k, 0) s) → Q none I1 J (pR t g)) : pM l X yX1_add mX1_add 1 [.ref f, .int (nI k)] pK pK I J (pR t g) Q :=
  M_X1_add hf (fun I1 x z => hq I1 x.r3 (hv.add hf x (fun o h => z o (k, 0) rfl rfl h)))
set_option maxHeartbeats 400000 in
set_option maxRecDepth 100000 in
theorem M_X1_addNumberS {l : Launch} {X : pX} {t g : Nat} {I : pHI} {J : pHJ} {Q : pQ} {n f k : Nat} {B : Nat → Nat} {s : pPS} (hf : isF f) (hv : cPs B n f I J s) (hq : ∀ I1, sR3 f I I1 → cPs B n f I1 J (adS (0, k) s) → Q none I1 J (pR t g)) : pM l X yX1_addNumber mX1_addNumber 1 [.ref f, .int (nI k)] pK pK I J (pR t g) Q :=
  M_X1_addNumber hf (fun I1 x z => hq I1 x.r3 (hv.add hf x (fun o h => z o (0, k) rfl rfl h)))
/-! the loops' words -/
theorem or_y {B : Nat → Nat} {n : Nat} {s : pPS} (h : isW B n 16 (rsO s) = true) : cTS B n 1 s = some 124 := by
  cases s with
  | inl e => cases h
  | inr x =>
    have h1 : tkWb B n x.1 16 = true := h
    have h2 : ¬ tkWb B n x.1 15 = true := fun q => by
      have a := (tkWb_i.mp h1).2
      rw [(tkWb_i.mp q).2] at a
      exact absurd (kw_inj 15 (by decide) 16 (by decide) a) (by decide)
    have e : mSg B n x.1 = 124 := by unfold mSg; rw [if_neg h2, if_pos h1]
    simp only [cTS]
    rw [tgP_t (by omega), e]; rfl
theorem or_n {B : Nat → Nat} {n : Nat} {s : pPS} (h : ¬ isW B n 16 (rsO s) = true) : cTS B n 1 s = none := by
  cases s with
  | inl e => rfl
  | inr x =>
    simp only [cTS]
    refine if_neg (fun q => h ?_)
    show tkWb B n x.1 16 = true
    have h0 : mSg B n x.1 ≠ 0 := fun z => by have := tgP_0.mpr z; omega
    rw [tgP_t h0] at q
    unfold mSg at q
    by_cases a : tkWb B n x.1 15 = true
    · rw [if_pos a] at q; cases q
    · rw [if_neg a] at q
      by_cases b : tkWb B n x.1 16 = true
      · exact b
      · rw [if_neg b] at q
        split at q
        · rename_i d
          have := isOp_in d.2
          rcases this with z | z | z | z | z | z | z | z <;> rw [z] at q <;> cases q
        · cases q
theorem and_y {B : Nat → Nat} {n : Nat} {s : pPS} (h : isW B n 15 (rsO s) = true) : cTS B n 2 s = some 38 := by
  cases s with
  | inl e => cases h
  | inr x =>
    have h1 : tkWb B n x.1 15 = true := h
    have e : mSg B n x.1 = 38 := by unfold mSg; rw [if_pos h1]
    simp only [cTS]
    rw [tgP_t (by omega), e]; rfl
theorem and_n {B : Nat → Nat} {n : Nat} {s : pPS} (h : ¬ isW B n 15 (rsO s) = true) : cTS B n 2 s = none := by
  cases s with
  | inl e => rfl
  | inr x =>
    simp only [cTS]
    refine if_neg (fun q => h ?_)
    show tkWb B n x.1 15 = true
    have h0 : mSg B n x.1 ≠ 0 := fun z => by have := tgP_0.mpr z; omega
    rw [tgP_t h0] at q
    unfold mSg at q
    by_cases a : tkWb B n x.1 15 = true
    · exact a
    · rw [if_neg a] at q
      by_cases b : tkWb B n x.1 16 = true
      · rw [if_pos b] at q; cases q
      · rw [if_neg b] at q
        split at q
        · rename_i d
          have := isOp_in d.2
          rcases this with z | z | z | z | z | z | z | z <;> rw [z] at q <;> cases q
        · cases q
theorem op_w {B : Nat → Nat} {n p : Nat} (hk : tK B n p = 4) : ¬ tkWb B n p 15 = true ∧ ¬ tkWb B n p 16 = true := ⟨fun q => by have := tkWb_k q; omega, fun q => by have := tkWb_k q; omega⟩
theorem op_y {B : Nat → Nat} {n c : Nat} {s : pPS} (hc : isOp c = true) (h : isGn B n c (rsO s) = true) : cTS B n (tgt c) s = some c ∧ ∃ x, s = .inr x ∧ tC B n x.1 = c := by
  cases s with
  | inl e => cases h
  | inr x =>
    obtain ⟨h1, h2⟩ := tkGb_k (show tkGb B n x.1 c = true from h)
    have w := op_w h1
    have hc0 : c ≠ 0 := fun z => by rw [z] at hc; cases hc
    have e : mSg B n x.1 = c := by unfold mSg; rw [if_neg w.1, if_neg w.2, if_pos ⟨h1, by rw [h2]; exact hc⟩, h2]
    refine ⟨?_, x, rfl, h2⟩
    simp only [cTS]
    rw [tgP_t (by omega), e, if_pos rfl]
theorem op_n {B : Nat → Nat} {n t : Nat} {s : pPS} (ht : 4 ≤ t) (h : ∀ c, isOp c = true → tgt c = t → ¬ isGn B n c (rsO s) = true) : cTS B n t s = none := by
  cases s with
  | inl e => rfl
  | inr x =>
    simp only [cTS]
    refine if_neg (fun q => ?_)
    have h0 : mSg B n x.1 ≠ 0 := fun z => by have := tgP_0.mpr z; omega
    rw [tgP_t h0] at q
    rcases mSg_in h0 with ⟨a, b⟩ | ⟨a, b⟩ | ⟨a, b, d⟩
    · rw [a] at q; have : tgt 38 = 2 := rfl; omega
    · rw [a] at q; have : tgt 124 = 1 := rfl; omega
    · refine h _ d q ?_
      show tkGb B n x.1 (mSg B n x.1) = true
      unfold tkGb
      rw [a, b]; simp
theorem op_6 {c : Nat} (h : isOp c = true) (ht : tgt c = 6) : c = 42 ∨ c = 47 ∨ c = 37 := by
  rcases isOp_in h with z | z | z | z | z | z | z | z <;> subst z <;> first | omega | cases ht
theorem op_5 {c : Nat} (h : isOp c = true) (ht : tgt c = 5) : c = 43 ∨ c = 45 := by
  rcases isOp_in h with z | z | z | z | z | z | z | z <;> subst z <;> first | omega | cases ht
theorem op_4 {c : Nat} (h : isOp c = true) (ht : tgt c = 4) : c = 60 ∨ c = 62 ∨ c = 61 := by
  rcases isOp_in h with z | z | z | z | z | z | z | z <;> subst z <;> first | omega | cases ht
theorem op5_n {B : Nat → Nat} {n : Nat} {s : pPS} (a : ¬ isGn B n 43 (rsO s) = true) (b : ¬ isGn B n 45 (rsO s) = true) : cTS B n 5 s = none := op_n (by omega) (fun c hc ht => by
  rcases op_5 hc ht with rfl | rfl
  · exact a
  · exact b)
theorem op4_n {B : Nat → Nat} {n : Nat} {s : pPS} (a : ¬ isGn B n 60 (rsO s) = true) (b : ¬ isGn B n 62 (rsO s) = true) (d : ¬ isGn B n 61 (rsO s) = true) : cTS B n 4 s = none := op_n (by omega) (fun c hc ht => by
  rcases op_4 hc ht with rfl | rfl | rfl
  · exact a
  · exact b
  · exact d)
theorem lpS_y {B : Nat → Nat} {n t j c : Nat} {U : pPS → pPS} {s : pPS} (hj : j < 30) (h : cTS B n t s = some c) : lpS B n t U (30 - j) s = lpS B n t U (30 - (j + 1)) (adS (c, 0) (U (stS B n s))) := by
  rw [show 30 - j = (30 - (j + 1)) + 1 by omega, lpS, h]
theorem lpS_no {B : Nat → Nat} {n t m : Nat} {U : pPS → pPS} {s : pPS} (h : cTS B n t s = none) : lpS B n t U m s = s := by
  cases m with
  | zero => rfl
  | succ m => rw [lpS, h]
theorem cPs.sgn {B : Nat → Nat} {n f : Nat} {I : pHI} {J : pHJ} {x : Nat × pP × Nat} {c : Nat} (h : cPs B n f I J (.inr x)) (hc : tC B n x.1 = c) (h2 : c < 256) : I 4 6 = nI c := by
  rw [h.1.2.2.2.2.2.2.2.2.1, hc, bI_n h2]
def mvI (k : Nat) : Int32 := if k = 0 then -1 else nI k
set_option maxHeartbeats 400000 in
set_option maxRecDepth 100000 in
theorem M_X8_nextMeasure {l : Launch} {X : pX} {t g : Nat} {I : pHI} {J : pHJ} {Q : pQ} {n p : Nat} {B : Nat → Nat} (hp : p ≤ n) (hk : tkC B n p I J) (hq : Q (some (.int (mvI (mesN B n p)))) I J (pR t g)) : pM l X yX8_nextMeasure mX8_nextMeasure 5 [.ref 2] pK pK I J (pR t g) Q := by
  refine pM_of rfl (fun h => by cases h) rfl pKM (Nat.le_of_ble_eq_true rfl) ?_
  refine pE_aload_n dX8_nextMeasure_0 rfl rfl ?_
  refine pE_getR dX8_nextMeasure_1 flX8_40 rfl (by first | assumption | rfl) (by first | assumption | rfl) ?_
  refine pE_ldcS (i := 1) dX8_nextMeasure_4 rfl ?_
  refine pE_callV (d' := 4) (as := [_]) dX8_nextMeasure_6 lkX8_102 (cwX10_isWord _ _) ivX10_isWord ⟨_, rfl, rfl⟩ (by first | assumption | rfl) rfl rfl (Nat.le_of_ble_eq_true rfl) (by decide) pKK ?_
  refine M_X10_isWord (by decide) (fun z1 z2 => ?_) (fun z => ?_)
  · have w1 := (tkC.word hk hp (show 1 ∈ ownI by decide)).mp ⟨z1, z2⟩
    refine pE_if_eq_f (tgt := 14) dX8_nextMeasure_9 (by decide) nI_1n0 ?_
    refine pE_iconst (v := nI 1) dX8_nextMeasure_12 rfl ?_
    refine pE_iret dX8_nextMeasure_13 rfl rfl ?_
    have e : mesN B n p = 1 := by
      unfold mesN
      rw [if_pos (tkWb_i.mpr w1)]
    rw [e] at hq
    exact hq
  · have w1 : ¬ tkW B n p 1 := fun y => z ((tkC.word hk hp (show 1 ∈ ownI by decide)).mpr y)
    refine pE_if_eq_t (tgt := 14) dX8_nextMeasure_9 (by decide) nI_0 ?_
    refine pE_aload_n dX8_nextMeasure_14 rfl rfl ?_
    refine pE_getR dX8_nextMeasure_15 flX8_40 rfl (by first | assumption | rfl) (by first | assumption | rfl) ?_
    refine pE_ldcS (i := 7) dX8_nextMeasure_18 rfl ?_
    refine pE_callV (d' := 4) (as := [_]) dX8_nextMeasure_20 lkX8_102 (cwX10_isWord _ _) ivX10_isWord ⟨_, rfl, rfl⟩ (by first | assumption | rfl) rfl rfl (Nat.le_of_ble_eq_true rfl) (by decide) pKK ?_
    refine M_X10_isWord (by decide) (fun z1 z2 => ?_) (fun z => ?_)
    · have w7 := (tkC.word hk hp (show 7 ∈ ownI by decide)).mp ⟨z1, z2⟩
      refine pE_if_eq_f (tgt := 28) dX8_nextMeasure_23 (by decide) nI_1n0 ?_
      refine pE_iconst (v := nI 2) dX8_nextMeasure_26 rfl ?_
      refine pE_iret dX8_nextMeasure_27 rfl rfl ?_
      have e : mesN B n p = 2 := by
        unfold mesN
        rw [if_neg (fun q => w1 (tkWb_i.mp q)), if_pos (tkWb_i.mpr w7)]
      rw [e] at hq
      exact hq
    · have w7 : ¬ tkW B n p 7 := fun y => z ((tkC.word hk hp (show 7 ∈ ownI by decide)).mpr y)
      refine pE_if_eq_t (tgt := 28) dX8_nextMeasure_23 (by decide) nI_0 ?_
      refine pE_aload_n dX8_nextMeasure_28 rfl rfl ?_
      refine pE_getR dX8_nextMeasure_29 flX8_40 rfl (by first | assumption | rfl) (by first | assumption | rfl) ?_
      refine pE_ldcS (i := 12) dX8_nextMeasure_32 rfl ?_
      refine pE_callV (d' := 4) (as := [_]) dX8_nextMeasure_34 lkX8_102 (cwX10_isWord _ _) ivX10_isWord ⟨_, rfl, rfl⟩ (by first | assumption | rfl) rfl rfl (Nat.le_of_ble_eq_true rfl) (by decide) pKK ?_
      refine M_X10_isWord (by decide) (fun z1 z2 => ?_) (fun z => ?_)
      · have w12 := (tkC.word hk hp (show 12 ∈ ownI by decide)).mp ⟨z1, z2⟩
        refine pE_if_eq_f (tgt := 42) dX8_nextMeasure_37 (by decide) nI_1n0 ?_
        refine pE_iconst (v := nI 3) dX8_nextMeasure_40 rfl ?_
        refine pE_iret dX8_nextMeasure_41 rfl rfl ?_
        have e : mesN B n p = 3 := by
          unfold mesN
          rw [if_neg (fun q => w1 (tkWb_i.mp q)), if_neg (fun q => w7 (tkWb_i.mp q)), if_pos (tkWb_i.mpr w12)]
        rw [e] at hq
        exact hq
      · have w12 : ¬ tkW B n p 12 := fun y => z ((tkC.word hk hp (show 12 ∈ ownI by decide)).mpr y)
        refine pE_if_eq_t (tgt := 42) dX8_nextMeasure_37 (by decide) nI_0 ?_
        refine pE_aload_n dX8_nextMeasure_42 rfl rfl ?_
        refine pE_getR dX8_nextMeasure_43 flX8_40 rfl (by first | assumption | rfl) (by first | assumption | rfl) ?_
        refine pE_ldcS (i := 13) dX8_nextMeasure_46 rfl ?_
        refine pE_callV (d' := 4) (as := [_]) dX8_nextMeasure_48 lkX8_102 (cwX10_isWord _ _) ivX10_isWord ⟨_, rfl, rfl⟩ (by first | assumption | rfl) rfl rfl (Nat.le_of_ble_eq_true rfl) (by decide) pKK ?_
        refine M_X10_isWord (by decide) (fun z1 z2 => ?_) (fun z => ?_)
        · have w13 := (tkC.word hk hp (show 13 ∈ ownI by decide)).mp ⟨z1, z2⟩
          refine pE_if_eq_f (tgt := 56) dX8_nextMeasure_51 (by decide) nI_1n0 ?_
          refine pE_iconst (v := nI 4) dX8_nextMeasure_54 rfl ?_
          refine pE_iret dX8_nextMeasure_55 rfl rfl ?_
          have e : mesN B n p = 4 := by
            unfold mesN
            rw [if_neg (fun q => w1 (tkWb_i.mp q)), if_neg (fun q => w7 (tkWb_i.mp q)), if_neg (fun q => w12 (tkWb_i.mp q)), if_pos (tkWb_i.mpr w13)]
          rw [e] at hq
          exact hq
        · have w13 : ¬ tkW B n p 13 := fun y => z ((tkC.word hk hp (show 13 ∈ ownI by decide)).mpr y)
          refine pE_if_eq_t (tgt := 56) dX8_nextMeasure_51 (by decide) nI_0 ?_
          refine pE_aload_n dX8_nextMeasure_56 rfl rfl ?_
          refine pE_getR dX8_nextMeasure_57 flX8_40 rfl (by first | assumption | rfl) (by first | assumption | rfl) ?_
          refine pE_ldcS (i := 14) dX8_nextMeasure_60 rfl ?_
          refine pE_callV (d' := 4) (as := [_]) dX8_nextMeasure_62 lkX8_102 (cwX10_isWord _ _) ivX10_isWord ⟨_, rfl, rfl⟩ (by first | assumption | rfl) rfl rfl (Nat.le_of_ble_eq_true rfl) (by decide) pKK ?_
          refine M_X10_isWord (by decide) (fun z1 z2 => ?_) (fun z => ?_)
          · have w14 := (tkC.word hk hp (show 14 ∈ ownI by decide)).mp ⟨z1, z2⟩
            refine pE_if_eq_f (tgt := 70) dX8_nextMeasure_65 (by decide) nI_1n0 ?_
            refine pE_iconst (v := nI 5) dX8_nextMeasure_68 rfl ?_
            refine pE_iret dX8_nextMeasure_69 rfl rfl ?_
            have e : mesN B n p = 5 := by
              unfold mesN
              rw [if_neg (fun q => w1 (tkWb_i.mp q)), if_neg (fun q => w7 (tkWb_i.mp q)), if_neg (fun q => w12 (tkWb_i.mp q)), if_neg (fun q => w13 (tkWb_i.mp q)), if_pos (tkWb_i.mpr w14)]
            rw [e] at hq
            exact hq
          · have w14 : ¬ tkW B n p 14 := fun y => z ((tkC.word hk hp (show 14 ∈ ownI by decide)).mpr y)
            refine pE_if_eq_t (tgt := 70) dX8_nextMeasure_65 (by decide) nI_0 ?_
            refine pE_aload_n dX8_nextMeasure_70 rfl rfl ?_
            refine pE_getR dX8_nextMeasure_71 flX8_40 rfl (by first | assumption | rfl) (by first | assumption | rfl) ?_
            refine pE_ldcS (i := 2) dX8_nextMeasure_74 rfl ?_
            refine pE_callV (d' := 4) (as := [_]) dX8_nextMeasure_76 lkX8_102 (cwX10_isWord _ _) ivX10_isWord ⟨_, rfl, rfl⟩ (by first | assumption | rfl) rfl rfl (Nat.le_of_ble_eq_true rfl) (by decide) pKK ?_
            refine M_X10_isWord (by decide) (fun z1 z2 => ?_) (fun z => ?_)
            · have w2 := (tkC.word hk hp (show 2 ∈ ownI by decide)).mp ⟨z1, z2⟩
              refine pE_if_eq_f (tgt := 87) dX8_nextMeasure_79 (by decide) nI_1n0 ?_
              refine pE_bipush (v := nI 6) dX8_nextMeasure_82 rfl ?_
              refine pE_goto (tgt := 88) dX8_nextMeasure_84 (by decide) ?_
              refine pE_iret dX8_nextMeasure_88 rfl rfl ?_
              first
              | (have z9 := w2
                 have e : mesN B n p = 6 := by
                   unfold mesN
                   rw [if_neg (fun q => w1 (tkWb_i.mp q)), if_neg (fun q => w7 (tkWb_i.mp q)), if_neg (fun q => w12 (tkWb_i.mp q)), if_neg (fun q => w13 (tkWb_i.mp q)), if_neg (fun q => w14 (tkWb_i.mp q)), if_pos (tkWb_i.mpr w2)]
                 rw [e] at hq
                 exact hq)
              | (have e : mesN B n p = 0 := by
                   unfold mesN
                   rw [if_neg (fun q => w1 (tkWb_i.mp q)), if_neg (fun q => w7 (tkWb_i.mp q)), if_neg (fun q => w12 (tkWb_i.mp q)), if_neg (fun q => w13 (tkWb_i.mp q)), if_neg (fun q => w14 (tkWb_i.mp q)), if_neg (fun q => w2 (tkWb_i.mp q))]
                 rw [e] at hq
                 exact hq)
            · have w2 : ¬ tkW B n p 2 := fun y => z ((tkC.word hk hp (show 2 ∈ ownI by decide)).mpr y)
              refine pE_if_eq_t (tgt := 87) dX8_nextMeasure_79 (by decide) nI_0 ?_
              refine pE_iconst (v := -1) dX8_nextMeasure_87 rfl ?_
              refine pE_iret dX8_nextMeasure_88 rfl rfl ?_
              first
              | (have z9 := w2
                 have e : mesN B n p = 6 := by
                   unfold mesN
                   rw [if_neg (fun q => w1 (tkWb_i.mp q)), if_neg (fun q => w7 (tkWb_i.mp q)), if_neg (fun q => w12 (tkWb_i.mp q)), if_neg (fun q => w13 (tkWb_i.mp q)), if_neg (fun q => w14 (tkWb_i.mp q)), if_pos (tkWb_i.mpr w2)]
                 rw [e] at hq
                 exact hq)
              | (have e : mesN B n p = 0 := by
                   unfold mesN
                   rw [if_neg (fun q => w1 (tkWb_i.mp q)), if_neg (fun q => w7 (tkWb_i.mp q)), if_neg (fun q => w12 (tkWb_i.mp q)), if_neg (fun q => w13 (tkWb_i.mp q)), if_neg (fun q => w14 (tkWb_i.mp q)), if_neg (fun q => w2 (tkWb_i.mp q))]
                 rw [e] at hq
                 exact hq)
set_option maxHeartbeats 400000 in
set_option maxRecDepth 100000 in
theorem M_X8_isNextFactor {l : Launch} {X : pX} {t g : Nat} {I : pHI} {J : pHJ} {Q : pQ} {n : Nat} {B : Nat → Nat} {s : pRS} (hr : cRd B n I J s) (h1 : ∀ c, (c = 42 ∨ c = 47 ∨ c = 37) → isGn B n c s = true → Q (some (.int (nI 1))) I J (pR t g)) (h0 : (∀ c, (c = 42 ∨ c = 47 ∨ c = 37) → ¬ isGn B n c s = true) → Q (some (.int (nI 0))) I J (pR t g)) : pM l X yX8_isNextFactor mX8_isNextFactor 6 [.ref 2] pK pK I J (pR t g) Q := by
  refine pM_of rfl (fun h => by cases h) rfl pKM (Nat.le_of_ble_eq_true rfl) ?_
  refine pE_aload_n dX8_isNextFactor_0 rfl rfl ?_
  refine pE_bipush (v := nI 42) dX8_isNextFactor_1 rfl ?_
  refine pE_callV (d' := 5) (as := [_]) dX8_isNextFactor_3 lkX8_202 (cwX8_isNextSign _ _) ivX8_isNextSign ⟨_, rfl, rfl⟩ (by first | assumption | rfl) rfl rfl (Nat.le_of_ble_eq_true rfl) (by decide) pKK ?_
  refine M_X8_isNextSign hr (show 42 < 256 by omega) (fun z42 => ?_) (fun z42 => ?_)
  · refine pE_if_ne_t (tgt := 27) dX8_isNextFactor_6 (by decide) nI_1n0 ?_
    refine pE_iconst (v := nI 1) dX8_isNextFactor_27 rfl ?_
    refine pE_goto (tgt := 32) dX8_isNextFactor_28 (by decide) ?_
    refine pE_zret dX8_isNextFactor_32 rfl (by first | exact Or.inl nI_0 | exact Or.inr nI_1') rfl ?_
    first
    | exact h1 42 (by omega) z42
    | exact h1 47 (by omega) z47
    | exact h1 37 (by omega) z37
    | (refine h0 (fun c hc => ?_)
       rcases hc with rfl | rfl | rfl
       · exact z42
       · exact z47
       · exact z37)
  · refine pE_if_ne_f (tgt := 27) dX8_isNextFactor_6 (by decide) nI_0 ?_
    refine pE_aload_n dX8_isNextFactor_9 rfl rfl ?_
    refine pE_bipush (v := nI 47) dX8_isNextFactor_10 rfl ?_
    refine pE_callV (d' := 5) (as := [_]) dX8_isNextFactor_12 lkX8_202 (cwX8_isNextSign _ _) ivX8_isNextSign ⟨_, rfl, rfl⟩ (by first | assumption | rfl) rfl rfl (Nat.le_of_ble_eq_true rfl) (by decide) pKK ?_
    refine M_X8_isNextSign hr (show 47 < 256 by omega) (fun z47 => ?_) (fun z47 => ?_)
    · refine pE_if_ne_t (tgt := 27) dX8_isNextFactor_15 (by decide) nI_1n0 ?_
      refine pE_iconst (v := nI 1) dX8_isNextFactor_27 rfl ?_
      refine pE_goto (tgt := 32) dX8_isNextFactor_28 (by decide) ?_
      refine pE_zret dX8_isNextFactor_32 rfl (by first | exact Or.inl nI_0 | exact Or.inr nI_1') rfl ?_
      first
      | exact h1 42 (by omega) z42
      | exact h1 47 (by omega) z47
      | exact h1 37 (by omega) z37
      | (refine h0 (fun c hc => ?_)
         rcases hc with rfl | rfl | rfl
         · exact z42
         · exact z47
         · exact z37)
    · refine pE_if_ne_f (tgt := 27) dX8_isNextFactor_15 (by decide) nI_0 ?_
      refine pE_aload_n dX8_isNextFactor_18 rfl rfl ?_
      refine pE_bipush (v := nI 37) dX8_isNextFactor_19 rfl ?_
      refine pE_callV (d' := 5) (as := [_]) dX8_isNextFactor_21 lkX8_202 (cwX8_isNextSign _ _) ivX8_isNextSign ⟨_, rfl, rfl⟩ (by first | assumption | rfl) rfl rfl (Nat.le_of_ble_eq_true rfl) (by decide) pKK ?_
      refine M_X8_isNextSign hr (show 37 < 256 by omega) (fun z37 => ?_) (fun z37 => ?_)
      · refine pE_if_eq_f (tgt := 31) dX8_isNextFactor_24 (by decide) nI_1n0 ?_
        refine pE_iconst (v := nI 1) dX8_isNextFactor_27 rfl ?_
        refine pE_goto (tgt := 32) dX8_isNextFactor_28 (by decide) ?_
        refine pE_zret dX8_isNextFactor_32 rfl (by first | exact Or.inl nI_0 | exact Or.inr nI_1') rfl ?_
        first
        | exact h1 42 (by omega) z42
        | exact h1 47 (by omega) z47
        | exact h1 37 (by omega) z37
        | (refine h0 (fun c hc => ?_)
           rcases hc with rfl | rfl | rfl
           · exact z42
           · exact z47
           · exact z37)
      · refine pE_if_eq_t (tgt := 31) dX8_isNextFactor_24 (by decide) nI_0 ?_
        refine pE_iconst (v := nI 0) dX8_isNextFactor_31 rfl ?_
        refine pE_zret dX8_isNextFactor_32 rfl (by first | exact Or.inl nI_0 | exact Or.inr nI_1') rfl ?_
        first
        | exact h1 42 (by omega) z42
        | exact h1 47 (by omega) z47
        | exact h1 37 (by omega) z37
        | (refine h0 (fun c hc => ?_)
           rcases hc with rfl | rfl | rfl
           · exact z42
           · exact z47
           · exact z37)
theorem mes_le (B : Nat → Nat) (n p : Nat) : mesN B n p ≤ 6 := by
  unfold mesN
  repeat' split
  all_goals omega
set_option maxHeartbeats 400000 in
set_option maxRecDepth 100000 in
theorem M_X8_readUnitE {l : Launch} {X : pX} {t g : Nat} {I : pHI} {J : pHJ} {Q : pQ} {n f e : Nat} {B : Nat → Nat} {D : Nat} {e1 : Nat × Nat} (hv : cPs B n f I J (.inl e1)) (hq : Q none I J (pR t g)) : pM l X yX8_readUnit mX8_readUnit (D + 1) [.ref 2, .ref f, .int (nI e)] pK pK I J (pR t g) Q := by
  have h1 := hv.2.1
  refine pM_of rfl (fun h => by cases h) rfl pKM (Nat.le_of_ble_eq_true rfl) ?_
  refine pE_aload_n dX8_readUnit_0 rfl rfl ?_
  refine pE_getI dX8_readUnit_1 flX8_29 rfl (Or.inl rfl) (by first | assumption | rfl) ?_
  rw [hv.1]
  refine pE_if_eq (tgt := 8) dX8_readUnit_4 (by decide) (fun h4 => ?_) (fun h4 => ?_)
  · have g4 := nq_eq0 (by omega) h4
    omega
  · have g4 := nq_ne0 (by omega) h4
    refine pE_vret dX8_readUnit_7 rfl rfl ?_
    exact hq
set_option maxHeartbeats 400000 in
set_option maxRecDepth 100000 in
theorem M_X8_readUnitO {l : Launch} {X : pX} {t g : Nat} {I : pHI} {J : pHJ} {Q : pQ} {n f e : Nat} {B : Nat → Nat} {D : Nat} {x : Nat × pP × Nat} {BR : pPS → pPS} (hD : 7 ≤ D) (hBR : pRC l X t g B n f yX8_readBracket mX8_readBracket D e BR) (hf : isF f) (hT : tpC I n B) (hv : cPs B n f I J (.inr x)) (hq : ∀ I1 J1, sR3 f I I1 → j4 J J1 → cPs B n f I1 J1 (unS B n BR (.inr x)) → Q none I1 J1 (pR t g)) : pM l X yX8_readUnit mX8_readUnit (D + 1) [.ref 2, .ref f, .int (nI e)] pK pK I J (pR t g) Q := by
  obtain ⟨fFf0, fFf1, fFf2, fFf3, fFf4, fFf5, fFf6⟩ := FF t g hf
  have hfb := isF_b hf
  obtain ⟨hr, hu, hu30, hG⟩ := hv
  have hp : x.1 ≤ n := hr.2.2.1
  have hk := hr.2.2.2.2
  have hkl := tK_le (B := B) hp
  have hnx : ∀ u, cRd B n (pu I 2 2 u) J (.inr x.1) := fun u => cRd.fr hr (fun k => by rw [pu_ne _ _ _ (by omega)]) (by rw [pu_at, if_neg (by omega)]) (by rw [pu_at, if_neg (by omega)])
  have hgx : ∀ u, cG f x.2.1 (pu I 2 2 u) := fun u => hG.fr (by rw [pu_at, if_neg (by omega)]) (fun i => by rw [pu_at, if_neg (by omega)]) (fun i => by rw [pu_at, if_neg (by omega)])
  have hT1 : ∀ u, tpC (pu I 2 2 u) n B := fun u => hT.r3 hf (fun c k _ b _ _ _ => by rw [pu_at, if_neg (fun q => b ⟨q.1, Or.inl q.2⟩)])
  have hsr : ∀ u, sR3 f I (pu I 2 2 u) := fun u c k _ b _ _ _ => by rw [pu_at, if_neg (fun q => b ⟨q.1, Or.inl q.2⟩)]
  have hcp : x.2.2 < 30 → cPs B n f (pu I 2 2 (nI (x.2.2 + 1))) J (.inr (x.1, x.2.1, x.2.2 + 1)) := fun q => ⟨hnx _, by rw [pu_at, if_pos ⟨rfl, rfl⟩], q, hgx _⟩
  refine pM_of rfl (fun h => by cases h) rfl pKM (Nat.le_of_ble_eq_true rfl) ?_
  refine pE_aload_n dX8_readUnit_0 rfl rfl ?_
  refine pE_getI dX8_readUnit_1 flX8_29 rfl (Or.inl rfl) (by first | assumption | rfl) ?_
  rw [hr.1]
  refine pE_if_eq (tgt := 8) dX8_readUnit_4 (by decide) (fun h4 => ?_) (fun h4 => ?_)
  · have g4 := nq_eq0 (by omega) h4
    refine pE_aload_n dX8_readUnit_8 rfl rfl ?_
    refine pE_getI dX8_readUnit_9 flX8_15 rfl (Or.inl rfl) (by first | assumption | rfl) ?_
    rw [hu]
    refine pE_bipush (v := nI 30) dX8_readUnit_12 rfl ?_
    refine pE_icmp_lt (tgt := 23) dX8_readUnit_14 (by decide) (fun h14 => ?_) (fun h14 => ?_)
    · have g14 := nq_lt (by omega) (by omega) h14
      refine pE_aload_n dX8_readUnit_23 rfl rfl ?_
      refine pE_dupR dX8_readUnit_24 ?_
      refine pE_getI dX8_readUnit_25 flX8_15 rfl (Or.inl rfl) (by first | assumption | rfl) ?_
      rw [hu]
      refine pE_iconst (v := nI 1) dX8_readUnit_28 rfl ?_
      refine pE_iaddN dX8_readUnit_29 ?_
      refine pE_putI dX8_readUnit_30 flX8_15 ftX8 fiX8_2 rfl rfl (by first | assumption | rfl) ?_
      refine pE_aload_n dX8_readUnit_33 rfl rfl ?_
      refine pE_callV (d' := 5) (as := []) dX8_readUnit_34 lkX8_214 (cwX8_nextMeasure _ _) ivX8_nextMeasure ⟨_, rfl, rfl⟩ (by first | assumption | rfl) rfl rfl (Nat.le_of_ble_eq_true rfl) (by omega) pKK ?_
      refine M_X8_nextMeasure hp (hnx _).2.2.2.2 ?_
      refine pE_istore_n (lc' := [_, _, _, some (.int _)]) dX8_readUnit_37 rfl (Nat.le_of_ble_eq_true rfl) rfl rfl ?_
      refine pE_aload_n dX8_readUnit_38 rfl rfl ?_
      refine pE_getR dX8_readUnit_39 flX8_40 rfl (by first | assumption | rfl) (by first | assumption | rfl) ?_
      refine pE_bipush (v := nI 40) dX8_readUnit_42 rfl ?_
      refine pE_callV (d' := 0) (as := [_]) dX8_readUnit_44 lkX8_166 (cwX10_isSign _ _) ivX10_isSign ⟨_, rfl, rfl⟩ (by first | assumption | rfl) rfl rfl (Nat.le_of_ble_eq_true rfl) (by omega) pKK ?_
      refine M_X10_isSign  (fun z1 z2 => ?_) (fun z => ?_)
      · have hb : tkGb B n x.1 40 = true := ((hnx (nI (x.2.2 + 1))).2.2.2.2.sign hp (by omega)).mp ⟨z1, z2⟩
        refine pE_if_eq_f (tgt := 59) dX8_readUnit_47 (by decide) nI_1n0 ?_
        refine pE_aload_n dX8_readUnit_50 rfl rfl ?_
        refine pE_aload_n dX8_readUnit_51 rfl rfl ?_
        refine pE_iload_n dX8_readUnit_52 rfl rfl ?_
        refine pE_callV (d' := D) (as := [_, _]) dX8_readUnit_53 lkX8_218 (cwX8_readBracket _ _) ivX8_readBracket ⟨_, rfl, rfl⟩ (by first | assumption | rfl) rfl rfl (Nat.le_of_ble_eq_true rfl) (by omega) pKK ?_
        refine hBR _ _ _ _ (hT1 _) (hcp (by omega)) (fun I1 J1 x1 x2 x3 => ?_)
        refine pE_goto (tgt := 110) dX8_readUnit_56 (by decide) ?_
        refine pE_vret dX8_readUnit_110 rfl rfl ?_
        simp only [unS] at hq
        rw [if_neg (by omega), if_pos hb] at hq
        exact hq I1 J1 ((hsr _).tr x1) x2 x3
      · have hb : ¬ tkGb B n x.1 40 = true := fun y => z (((hnx (nI (x.2.2 + 1))).2.2.2.2.sign hp (by omega)).mpr y)
        refine pE_if_eq_t (tgt := 59) dX8_readUnit_47 (by decide) nI_0 ?_
        refine pE_aload_n dX8_readUnit_59 rfl rfl ?_
        refine pE_getR dX8_readUnit_60 flX8_40 rfl (by first | assumption | rfl) (by first | assumption | rfl) ?_
        refine pE_getI dX8_readUnit_63 flX8_73 rfl (Or.inl rfl) (by first | assumption | rfl) ?_
        rw [(hnx (nI (x.2.2 + 1))).2.2.2.2.1]
        refine pE_iconst (v := nI 3) dX8_readUnit_66 rfl ?_
        refine pE_icmp_ne (tgt := 88) dX8_readUnit_67 (by decide) (fun h67 => ?_) (fun h67 => ?_)
        · have g67 := nq_ne (by omega) (by omega) h67
          refine pE_iload_n dX8_readUnit_88 rfl rfl ?_
          refine pE_iconst (v := -1) dX8_readUnit_89 rfl ?_
          refine pE_icmp_eq (tgt := 105) dX8_readUnit_90 (by decide) (fun h90 => ?_) (fun h90 => ?_)
          · rw [mvI] at h90
            split at h90
            · rename_i q0
              simp only [unS] at hq
              rw [if_neg (by omega), if_neg hb, lfN, if_neg g67, if_pos q0] at hq
              refine pE_aload_n dX8_readUnit_105 rfl rfl ?_
              refine pE_iconst (v := nI 2) dX8_readUnit_106 rfl ?_
              refine pE_callV (d' := 0) (as := [_]) dX8_readUnit_107 lkX8_82 (cwX8_fail _ _) ivX8_fail ⟨_, rfl, rfl⟩ (by first | assumption | rfl) rfl rfl (Nat.le_of_ble_eq_true rfl) (by omega) pKK ?_
              refine M_X8_failS (hT1 _) (hcp (by omega)) (fun I1 x1 x2 => ?_)
              refine pE_vret dX8_readUnit_110 rfl rfl ?_
              exact hq I1 J ((hsr _).tr x1) j4.rf x2
            · exact absurd h90 (nI_mm (by have := mes_le B n x.1; omega))
          · have hm : mesN B n x.1 ≠ 0 := fun q0 => h90 (by rw [q0]; rfl)
            have hmv : mvI (mesN B n x.1) = nI (mesN B n x.1) := if_neg hm
            rw [hmv]
            simp only [unS] at hq
            rw [if_neg (by omega), if_neg hb, lfN, if_neg g67, if_neg hm] at hq
            refine pE_aload_n dX8_readUnit_93 rfl rfl ?_
            refine pE_iload_n dX8_readUnit_94 rfl rfl ?_
            refine pE_callV (d' := 1) (as := [_]) dX8_readUnit_95 lkX8_183 (cwX1_add _ _) ivX1_add ⟨_, rfl, rfl⟩ (by first | assumption | rfl) rfl rfl (Nat.le_of_ble_eq_true rfl) (by omega) pKK ?_
            refine M_X1_addS hf (hcp (by omega)) (fun I1 x1 x2 => ?_)
            refine pE_aload_n dX8_readUnit_98 rfl rfl ?_
            refine pE_callV (d' := 6) (as := []) dX8_readUnit_99 lkX8_85 (cwX8_step _ _) ivX8_step ⟨_, rfl, rfl⟩ (by first | assumption | rfl) rfl rfl (Nat.le_of_ble_eq_true rfl) (by omega) pKK ?_
            refine M_X8_stepS hf ((hT1 _).r3 hf x1) x2 (fun I2 J2 y1 y2 y3 => ?_)
            refine pE_goto (tgt := 110) dX8_readUnit_102 (by decide) ?_
            refine pE_vret dX8_readUnit_110 rfl rfl ?_
            exact hq I2 J2 ((hsr _).tr (x1.tr y1)) y2 y3
        · have g67 := nq_eq (by omega) (by omega) h67
          refine pE_aload_n dX8_readUnit_70 rfl rfl ?_
          refine pE_aload_n dX8_readUnit_71 rfl rfl ?_
          refine pE_getR dX8_readUnit_72 flX8_40 rfl (by first | assumption | rfl) (by first | assumption | rfl) ?_
          have hnum := (hnx (nI (x.2.2 + 1))).2.2.2.2.2.2.2.1 g67
          simp only [unS] at hq
          rw [if_neg (by omega), if_neg hb, lfN, if_pos g67] at hq
          refine pE_getI dX8_readUnit_75 flX8_163 rfl (Or.inl rfl) (by first | assumption | rfl) ?_
          rw [hnum]
          refine pE_callV (d' := 1) (as := [_]) dX8_readUnit_78 lkX8_221 (cwX1_addNumber _ _) ivX1_addNumber ⟨_, rfl, rfl⟩ (by first | assumption | rfl) rfl rfl (Nat.le_of_ble_eq_true rfl) (by omega) pKK ?_
          refine M_X1_addNumberS hf (hcp (by omega)) (fun I1 x1 x2 => ?_)
          refine pE_aload_n dX8_readUnit_81 rfl rfl ?_
          refine pE_callV (d' := 6) (as := []) dX8_readUnit_82 lkX8_85 (cwX8_step _ _) ivX8_step ⟨_, rfl, rfl⟩ (by first | assumption | rfl) rfl rfl (Nat.le_of_ble_eq_true rfl) (by omega) pKK ?_
          refine M_X8_stepS hf ((hT1 _).r3 hf x1) x2 (fun I2 J2 y1 y2 y3 => ?_)
          refine pE_goto (tgt := 110) dX8_readUnit_85 (by decide) ?_
          refine pE_vret dX8_readUnit_110 rfl rfl ?_
          exact hq I2 J2 ((hsr _).tr (x1.tr y1)) y2 y3
    · have g14 := nq_nlt (by omega) (by omega) h14
      refine pE_aload_n dX8_readUnit_17 rfl rfl ?_
      refine pE_iconst (v := nI 2) dX8_readUnit_18 rfl ?_
      refine pE_callV (d' := 0) (as := [_]) dX8_readUnit_19 lkX8_82 (cwX8_fail _ _) ivX8_fail ⟨_, rfl, rfl⟩ (by first | assumption | rfl) rfl rfl (Nat.le_of_ble_eq_true rfl) (by omega) pKK ?_
      refine M_X8_failS hT (s := .inr x) ⟨hr, hu, hu30, hG⟩ (fun I1 x1 x2 => ?_)
      refine pE_vret dX8_readUnit_22 rfl rfl ?_
      simp only [unS] at hq
      rw [if_pos (by omega)] at hq
      exact hq I1 J x1 j4.rf x2
  · have g4 := nq_ne0 (by omega) h4
    omega
theorem R_X8_readUnit {l : Launch} {X : pX} {t g : Nat} {n f e D : Nat} {B : Nat → Nat} {BR : pPS → pPS} (hf : isF f) (hD : 7 ≤ D) (hBR : pRC l X t g B n f yX8_readBracket mX8_readBracket D e BR) : pRC l X t g B n f yX8_readUnit mX8_readUnit (D + 1) e (unS B n BR) := by
  intro I J Q s hT hv hq
  cases s with
  | inl e1 => exact M_X8_readUnitE hv (hq I J sR3.rf j4.rf hv)
  | inr x => exact M_X8_readUnitO hD hBR hf hT hv hq
set_option maxHeartbeats 400000 in
set_option maxRecDepth 100000 in
theorem L_X8_readTerm {l : Launch} {X : pX} {t g : Nat} {I : pHI} {J : pHJ} {Q : pQ} {n f e : Nat} {B : Nat → Nat} {D : Nat} {U : pPS → pPS} {z : pPS} (hD : 7 ≤ D) (hU : pRC l X t g B n f yX8_readUnit mX8_readUnit D e U) (hf : isF f) (hT : tpC I n B) (hq : ∀ I1 J1, sR3 f I I1 → j4 J J1 → cPs B n f I1 J1 z → Q none I1 J1 (pR t g)) : ∀ (fu : Nat) (j : Nat) (s1 : pPS) (v4 : Option Value) (I1 : pHI) (J1 : pHJ), 30 - j < fu → (j ≤ 30) → (sR3 f I I1) → (j4 J J1) → (cPs B n f I1 J1 s1) → (lpS B n 6 U (30 - j) s1 = z) → pE l X mX8_readTerm (D + 1) pK 8 [some (.ref 2), some (.ref f), some (.int (nI e)), some (.int (nI j)), v4] [] pK I1 J1 (pR t g) Q := by
  intro fu
  induction fu with
  | zero => intro j s1 v4 I1 J1 hn; exact absurd hn (Nat.not_lt_zero _)
  | succ fu ih =>
    intro j s1 v4 I1 J1 hn hj hx jx hv hl
    obtain ⟨fFf0, fFf1, fFf2, fFf3, fFf4, fFf5, fFf6⟩ := FF t g hf
    have hfb := isF_b hf
    refine pE_iload_n dX8_readTerm_8 rfl rfl ?_
    refine pE_bipush (v := nI 30) dX8_readTerm_9 rfl ?_
    refine pE_icmp_ge (tgt := 52) dX8_readTerm_11 (by decide) (fun h11 => ?_) (fun h11 => ?_)
    · have g11 := nq_le (by omega) (by omega) h11
      refine pE_vret dX8_readTerm_52 rfl rfl ?_
      first
      | (have e0 : lpS B n 6 U (30 - j) s1 = s1 := by
           rw [show 30 - j = 0 by omega]; rfl
         rw [e0] at hl
         rw [← hl] at hq
         exact hq I1 J1 hx jx hv)
      | (have hc : cTS B n 6 s1 = none := op_n (by omega) (fun c hc ht => z c (op_6 hc ht))
         rw [lpS_no hc] at hl
         rw [← hl] at hq
         exact hq I1 J1 hx jx hv)
    · have g11 := nq_nle (by omega) (by omega) h11
      refine pE_aload_n dX8_readTerm_14 rfl rfl ?_
      refine pE_callV (d' := 6) (as := []) dX8_readTerm_15 lkX8_211 (cwX8_isNextFactor _ _) ivX8_isNextFactor ⟨_, rfl, rfl⟩ (by first | assumption | rfl) rfl rfl (Nat.le_of_ble_eq_true rfl) (by omega) pKK ?_
      refine M_X8_isNextFactor hv.rd (fun c9 hc9 z1 => ?_) (fun z => ?_)
      · have hc9o : isOp c9 = true := by rcases hc9 with rfl | rfl | rfl <;> rfl
        have hc9b : c9 < 256 := by omega
        obtain ⟨hc, xx, e0, e1⟩ := op_y hc9o z1
        have ht9 : tgt c9 = 6 := by rcases hc9 with rfl | rfl | rfl <;> rfl
        rw [ht9] at hc
        have hsg : I1 4 6 = nI c9 := by rw [e0] at hv; exact hv.sgn e1 hc9b
        refine pE_if_eq_f (tgt := 52) dX8_readTerm_18 (by decide) nI_1n0 ?_
        refine pE_aload_n dX8_readTerm_21 rfl rfl ?_
        refine pE_getR dX8_readTerm_22 flX8_40 rfl (by first | assumption | rfl) (by first | assumption | rfl) ?_
        refine pE_getI dX8_readTerm_25 flX8_199 rfl (Or.inl rfl) (by first | assumption | rfl) ?_
        rw [hsg]
        refine pE_istore (lc' := [_, _, _, _, some (.int _)]) dX8_readTerm_28 (Nat.le_of_ble_eq_true rfl) rfl rfl ?_
        refine pE_aload_n dX8_readTerm_30 rfl rfl ?_
        refine pE_callV (d' := 6) (as := []) dX8_readTerm_31 lkX8_85 (cwX8_step _ _) ivX8_step ⟨_, rfl, rfl⟩ (by first | assumption | rfl) rfl rfl (Nat.le_of_ble_eq_true rfl) (by omega) pKK ?_
        refine M_X8_stepS hf (hT.r3 hf hx) hv (fun I2 J2 x1 x2 x3 => ?_)
        refine pE_aload_n dX8_readTerm_34 rfl rfl ?_
        refine pE_aload_n dX8_readTerm_35 rfl rfl ?_
        refine pE_iload_n dX8_readTerm_36 rfl rfl ?_
        refine pE_callV (d' := D) (as := [_, _]) dX8_readTerm_37 lkX8_208 (cwX8_readUnit _ _) ivX8_readUnit ⟨_, rfl, rfl⟩ (by first | assumption | rfl) rfl rfl (Nat.le_of_ble_eq_true rfl) (by omega) pKK ?_
        refine hU _ _ _ _ (hT.r3 hf (hx.tr x1)) x3 (fun I3 J3 y1 y2 y3 => ?_)
        refine pE_aload_n dX8_readTerm_40 rfl rfl ?_
        refine pE_iload dX8_readTerm_41 rfl ?_
        refine pE_callV (d' := 1) (as := [_]) dX8_readTerm_43 lkX8_183 (cwX1_add _ _) ivX1_add ⟨_, rfl, rfl⟩ (by first | assumption | rfl) rfl rfl (Nat.le_of_ble_eq_true rfl) (by omega) pKK ?_
        refine M_X1_addS hf y3 (fun I4 w1 w2 => ?_)
        refine pE_iincN (c0 := 1) (lc' := [_, _, _, some (.int _), _]) dX8_readTerm_46 rfl rfl rfl rfl ?_
        refine pE_goto (tgt := 8) dX8_readTerm_49 (by decide) ?_
        exact ih (j + 1) _ _ _ _ (by omega) (by omega) (hx.tr (x1.tr (y1.tr w1))) (jx.tr (x2.tr y2)) w2 ((lpS_y g11 hc).symm.trans hl)
      · refine pE_if_eq_t (tgt := 52) dX8_readTerm_18 (by decide) nI_0 ?_
        refine pE_vret dX8_readTerm_52 rfl rfl ?_
        have hc : cTS B n 6 s1 = none := op_n (by omega) (fun c hc ht => z c (op_6 hc ht))
        rw [lpS_no hc] at hl
        rw [← hl] at hq
        exact hq I1 J1 hx jx hv
set_option maxHeartbeats 400000 in
set_option maxRecDepth 100000 in
theorem R_X8_readTerm {l : Launch} {X : pX} {t g : Nat} {n f e D : Nat} {B : Nat → Nat} {U : pPS → pPS} (hf : isF f) (hD : 7 ≤ D) (hU : pRC l X t g B n f yX8_readUnit mX8_readUnit D e U) : pRC l X t g B n f yX8_readTerm mX8_readTerm (D + 1) e (teS B n U) := by
  intro I J Q s hT hv hq
  obtain ⟨fFf0, fFf1, fFf2, fFf3, fFf4, fFf5, fFf6⟩ := FF t g hf
  refine pM_of rfl (fun h => by cases h) rfl pKM (Nat.le_of_ble_eq_true rfl) ?_
  refine pE_aload_n dX8_readTerm_0 rfl rfl ?_
  refine pE_aload_n dX8_readTerm_1 rfl rfl ?_
  refine pE_iload_n dX8_readTerm_2 rfl rfl ?_
  refine pE_callV (d' := D) (as := [_, _]) dX8_readTerm_3 lkX8_208 (cwX8_readUnit _ _) ivX8_readUnit ⟨_, rfl, rfl⟩ (by first | assumption | rfl) rfl rfl (Nat.le_of_ble_eq_true rfl) (by omega) pKK ?_
  refine hU _ _ _ _ hT hv (fun I1 J1 x1 x2 x3 => ?_)
  refine pE_iconst (v := nI 0) dX8_readTerm_6 rfl ?_
  refine pE_istore_n (lc' := [_, _, _, some (.int _), _]) dX8_readTerm_7 rfl (Nat.le_of_ble_eq_true rfl) rfl rfl ?_
  exact L_X8_readTerm hD hU hf hT hq 31 0 _ _ _ _ (by omega) (by omega) x1 x2 x3 rfl
set_option maxHeartbeats 400000 in
set_option maxRecDepth 100000 in
theorem L_X8_readSum {l : Launch} {X : pX} {t g : Nat} {I : pHI} {J : pHJ} {Q : pQ} {n f e : Nat} {B : Nat → Nat} {D : Nat} {U : pPS → pPS} {z : pPS} (hD : 7 ≤ D) (hU : pRC l X t g B n f yX8_readTerm mX8_readTerm D e U) (hf : isF f) (hT : tpC I n B) (hq : ∀ I1 J1, sR3 f I I1 → j4 J J1 → cPs B n f I1 J1 z → Q none I1 J1 (pR t g)) : ∀ (fu : Nat) (j : Nat) (s1 : pPS) (v4 : Option Value) (I1 : pHI) (J1 : pHJ), 30 - j < fu → (j ≤ 30) → (sR3 f I I1) → (j4 J J1) → (cPs B n f I1 J1 s1) → (lpS B n 5 U (30 - j) s1 = z) → pE l X mX8_readSum (D + 1) pK 8 [some (.ref 2), some (.ref f), some (.int (nI e)), some (.int (nI j)), v4] [] pK I1 J1 (pR t g) Q := by
  intro fu
  induction fu with
  | zero => intro j s1 v4 I1 J1 hn; exact absurd hn (Nat.not_lt_zero _)
  | succ fu ih =>
    intro j s1 v4 I1 J1 hn hj hx jx hv hl
    obtain ⟨fFf0, fFf1, fFf2, fFf3, fFf4, fFf5, fFf6⟩ := FF t g hf
    have hfb := isF_b hf
    refine pE_iload_n dX8_readSum_8 rfl rfl ?_
    refine pE_bipush (v := nI 30) dX8_readSum_9 rfl ?_
    refine pE_icmp_ge (tgt := 63) dX8_readSum_11 (by decide) (fun h11 => ?_) (fun h11 => ?_)
    · have g11 := nq_le (by omega) (by omega) h11
      refine pE_vret dX8_readSum_63 rfl rfl ?_
      first
      | (have e0 : lpS B n 5 U (30 - j) s1 = s1 := by
           rw [show 30 - j = 0 by omega]; rfl
         rw [e0] at hl
         rw [← hl] at hq
         exact hq I1 J1 hx jx hv)
      | (have hc : cTS B n 5 s1 = none := op5_n z43 z45
         rw [lpS_no hc] at hl
         rw [← hl] at hq
         exact hq I1 J1 hx jx hv)
    · have g11 := nq_nle (by omega) (by omega) h11
      refine pE_aload_n dX8_readSum_14 rfl rfl ?_
      refine pE_bipush (v := nI 43) dX8_readSum_15 rfl ?_
      refine pE_callV (d' := 5) (as := [_]) dX8_readSum_17 lkX8_202 (cwX8_isNextSign _ _) ivX8_isNextSign ⟨_, rfl, rfl⟩ (by first | assumption | rfl) rfl rfl (Nat.le_of_ble_eq_true rfl) (by omega) pKK ?_
      refine M_X8_isNextSign hv.rd (show 43 < 256 by omega) (fun z43 => ?_) (fun z43 => ?_)
      · have hcy := op_y (show isOp 43 = true from rfl) z43
        rw [show tgt 43 = 5 from rfl] at hcy
        obtain ⟨hc, xx, e0, e1⟩ := hcy
        have hsg : I1 4 6 = nI 43 := by rw [e0] at hv; exact hv.sgn e1 (by omega)
        refine pE_if_ne_t (tgt := 32) dX8_readSum_20 (by decide) nI_1n0 ?_
        refine pE_aload_n dX8_readSum_32 rfl rfl ?_
        refine pE_getR dX8_readSum_33 flX8_40 rfl (by first | assumption | rfl) (by first | assumption | rfl) ?_
        refine pE_getI dX8_readSum_36 flX8_199 rfl (Or.inl rfl) (by first | assumption | rfl) ?_
        rw [hsg]
        refine pE_istore (lc' := [_, _, _, _, some (.int _)]) dX8_readSum_39 (Nat.le_of_ble_eq_true rfl) rfl rfl ?_
        refine pE_aload_n dX8_readSum_41 rfl rfl ?_
        refine pE_callV (d' := 6) (as := []) dX8_readSum_42 lkX8_85 (cwX8_step _ _) ivX8_step ⟨_, rfl, rfl⟩ (by first | assumption | rfl) rfl rfl (Nat.le_of_ble_eq_true rfl) (by omega) pKK ?_
        refine M_X8_stepS hf (hT.r3 hf hx) hv (fun I2 J2 x1 x2 x3 => ?_)
        refine pE_aload_n dX8_readSum_45 rfl rfl ?_
        refine pE_aload_n dX8_readSum_46 rfl rfl ?_
        refine pE_iload_n dX8_readSum_47 rfl rfl ?_
        refine pE_callV (d' := D) (as := [_, _]) dX8_readSum_48 lkX8_205 (cwX8_readTerm _ _) ivX8_readTerm ⟨_, rfl, rfl⟩ (by first | assumption | rfl) rfl rfl (Nat.le_of_ble_eq_true rfl) (by omega) pKK ?_
        refine hU _ _ _ _ (hT.r3 hf (hx.tr x1)) x3 (fun I3 J3 y1 y2 y3 => ?_)
        refine pE_aload_n dX8_readSum_51 rfl rfl ?_
        refine pE_iload dX8_readSum_52 rfl ?_
        refine pE_callV (d' := 1) (as := [_]) dX8_readSum_54 lkX8_183 (cwX1_add _ _) ivX1_add ⟨_, rfl, rfl⟩ (by first | assumption | rfl) rfl rfl (Nat.le_of_ble_eq_true rfl) (by omega) pKK ?_
        refine M_X1_addS hf y3 (fun I4 w1 w2 => ?_)
        refine pE_iincN (c0 := 1) (lc' := [_, _, _, some (.int _), _]) dX8_readSum_57 rfl rfl rfl rfl ?_
        refine pE_goto (tgt := 8) dX8_readSum_60 (by decide) ?_
        exact ih (j + 1) _ _ _ _ (by omega) (by omega) (hx.tr (x1.tr (y1.tr w1))) (jx.tr (x2.tr y2)) w2 ((lpS_y g11 hc).symm.trans hl)
      · refine pE_if_ne_f (tgt := 32) dX8_readSum_20 (by decide) nI_0 ?_
        refine pE_aload_n dX8_readSum_23 rfl rfl ?_
        refine pE_bipush (v := nI 45) dX8_readSum_24 rfl ?_
        refine pE_callV (d' := 5) (as := [_]) dX8_readSum_26 lkX8_202 (cwX8_isNextSign _ _) ivX8_isNextSign ⟨_, rfl, rfl⟩ (by first | assumption | rfl) rfl rfl (Nat.le_of_ble_eq_true rfl) (by omega) pKK ?_
        refine M_X8_isNextSign hv.rd (show 45 < 256 by omega) (fun z45 => ?_) (fun z45 => ?_)
        · have hcy := op_y (show isOp 45 = true from rfl) z45
          rw [show tgt 45 = 5 from rfl] at hcy
          obtain ⟨hc, xx, e0, e1⟩ := hcy
          have hsg : I1 4 6 = nI 45 := by rw [e0] at hv; exact hv.sgn e1 (by omega)
          refine pE_if_eq_f (tgt := 63) dX8_readSum_29 (by decide) nI_1n0 ?_
          refine pE_aload_n dX8_readSum_32 rfl rfl ?_
          refine pE_getR dX8_readSum_33 flX8_40 rfl (by first | assumption | rfl) (by first | assumption | rfl) ?_
          refine pE_getI dX8_readSum_36 flX8_199 rfl (Or.inl rfl) (by first | assumption | rfl) ?_
          rw [hsg]
          refine pE_istore (lc' := [_, _, _, _, some (.int _)]) dX8_readSum_39 (Nat.le_of_ble_eq_true rfl) rfl rfl ?_
          refine pE_aload_n dX8_readSum_41 rfl rfl ?_
          refine pE_callV (d' := 6) (as := []) dX8_readSum_42 lkX8_85 (cwX8_step _ _) ivX8_step ⟨_, rfl, rfl⟩ (by first | assumption | rfl) rfl rfl (Nat.le_of_ble_eq_true rfl) (by omega) pKK ?_
          refine M_X8_stepS hf (hT.r3 hf hx) hv (fun I2 J2 x1 x2 x3 => ?_)
          refine pE_aload_n dX8_readSum_45 rfl rfl ?_
          refine pE_aload_n dX8_readSum_46 rfl rfl ?_
          refine pE_iload_n dX8_readSum_47 rfl rfl ?_
          refine pE_callV (d' := D) (as := [_, _]) dX8_readSum_48 lkX8_205 (cwX8_readTerm _ _) ivX8_readTerm ⟨_, rfl, rfl⟩ (by first | assumption | rfl) rfl rfl (Nat.le_of_ble_eq_true rfl) (by omega) pKK ?_
          refine hU _ _ _ _ (hT.r3 hf (hx.tr x1)) x3 (fun I3 J3 y1 y2 y3 => ?_)
          refine pE_aload_n dX8_readSum_51 rfl rfl ?_
          refine pE_iload dX8_readSum_52 rfl ?_
          refine pE_callV (d' := 1) (as := [_]) dX8_readSum_54 lkX8_183 (cwX1_add _ _) ivX1_add ⟨_, rfl, rfl⟩ (by first | assumption | rfl) rfl rfl (Nat.le_of_ble_eq_true rfl) (by omega) pKK ?_
          refine M_X1_addS hf y3 (fun I4 w1 w2 => ?_)
          refine pE_iincN (c0 := 1) (lc' := [_, _, _, some (.int _), _]) dX8_readSum_57 rfl rfl rfl rfl ?_
          refine pE_goto (tgt := 8) dX8_readSum_60 (by decide) ?_
          exact ih (j + 1) _ _ _ _ (by omega) (by omega) (hx.tr (x1.tr (y1.tr w1))) (jx.tr (x2.tr y2)) w2 ((lpS_y g11 hc).symm.trans hl)
        · refine pE_if_eq_t (tgt := 63) dX8_readSum_29 (by decide) nI_0 ?_
          refine pE_vret dX8_readSum_63 rfl rfl ?_
          first
          | (have e0 : lpS B n 5 U (30 - j) s1 = s1 := by
               rw [show 30 - j = 0 by omega]; rfl
             rw [e0] at hl
             rw [← hl] at hq
             exact hq I1 J1 hx jx hv)
          | (have hc : cTS B n 5 s1 = none := op5_n z43 z45
             rw [lpS_no hc] at hl
             rw [← hl] at hq
             exact hq I1 J1 hx jx hv)
set_option maxHeartbeats 400000 in
set_option maxRecDepth 100000 in
theorem R_X8_readSum {l : Launch} {X : pX} {t g : Nat} {n f e D : Nat} {B : Nat → Nat} {U : pPS → pPS} (hf : isF f) (hD : 7 ≤ D) (hU : pRC l X t g B n f yX8_readTerm mX8_readTerm D e U) : pRC l X t g B n f yX8_readSum mX8_readSum (D + 1) e (fun s => lpS B n 5 U 30 (U s)) := by
  intro I J Q s hT hv hq
  obtain ⟨fFf0, fFf1, fFf2, fFf3, fFf4, fFf5, fFf6⟩ := FF t g hf
  refine pM_of rfl (fun h => by cases h) rfl pKM (Nat.le_of_ble_eq_true rfl) ?_
  refine pE_aload_n dX8_readSum_0 rfl rfl ?_
  refine pE_aload_n dX8_readSum_1 rfl rfl ?_
  refine pE_iload_n dX8_readSum_2 rfl rfl ?_
  refine pE_callV (d' := D) (as := [_, _]) dX8_readSum_3 lkX8_205 (cwX8_readTerm _ _) ivX8_readTerm ⟨_, rfl, rfl⟩ (by first | assumption | rfl) rfl rfl (Nat.le_of_ble_eq_true rfl) (by omega) pKK ?_
  refine hU _ _ _ _ hT hv (fun I1 J1 x1 x2 x3 => ?_)
  refine pE_iconst (v := nI 0) dX8_readSum_6 rfl ?_
  refine pE_istore_n (lc' := [_, _, _, some (.int _), _]) dX8_readSum_7 rfl (Nat.le_of_ble_eq_true rfl) rfl rfl ?_
  exact L_X8_readSum hD hU hf hT hq 31 0 _ _ _ _ (by omega) (by omega) x1 x2 x3 rfl
set_option maxHeartbeats 400000 in
set_option maxRecDepth 100000 in
theorem L_X8_readBoth {l : Launch} {X : pX} {t g : Nat} {I : pHI} {J : pHJ} {Q : pQ} {n f e : Nat} {B : Nat → Nat} {D : Nat} {U : pPS → pPS} {z : pPS} (hD : 7 ≤ D) (hU : pRC l X t g B n f yX8_readOne mX8_readOne D e U) (hf : isF f) (hT : tpC I n B) (hq : ∀ I1 J1, sR3 f I I1 → j4 J J1 → cPs B n f I1 J1 z → Q none I1 J1 (pR t g)) : ∀ (fu : Nat) (j : Nat) (s1 : pPS) (I1 : pHI) (J1 : pHJ), 30 - j < fu → (j ≤ 30) → (sR3 f I I1) → (j4 J J1) → (cPs B n f I1 J1 s1) → (lpS B n 2 U (30 - j) s1 = z) → pE l X mX8_readBoth (D + 1) pK 8 [some (.ref 2), some (.ref f), some (.int (nI e)), some (.int (nI j))] [] pK I1 J1 (pR t g) Q := by
  intro fu
  induction fu with
  | zero => intro j s1 I1 J1 hn; exact absurd hn (Nat.not_lt_zero _)
  | succ fu ih =>
    intro j s1 I1 J1 hn hj hx jx hv hl
    obtain ⟨fFf0, fFf1, fFf2, fFf3, fFf4, fFf5, fFf6⟩ := FF t g hf
    have hfb := isF_b hf
    refine pE_iload_n dX8_readBoth_8 rfl rfl ?_
    refine pE_bipush (v := nI 30) dX8_readBoth_9 rfl ?_
    refine pE_icmp_ge (tgt := 45) dX8_readBoth_11 (by decide) (fun h11 => ?_) (fun h11 => ?_)
    · have g11 := nq_le (by omega) (by omega) h11
      refine pE_vret dX8_readBoth_45 rfl rfl ?_
      first
      | (have e0 : lpS B n 2 U (30 - j) s1 = s1 := by
           rw [show 30 - j = 0 by omega]; rfl
         rw [e0] at hl
         rw [← hl] at hq
         exact hq I1 J1 hx jx hv)
      | (rw [lpS_no hc] at hl
         rw [← hl] at hq
         exact hq I1 J1 hx jx hv)
    · have g11 := nq_nle (by omega) (by omega) h11
      refine pE_aload_n dX8_readBoth_14 rfl rfl ?_
      refine pE_ldcS (i := 15) dX8_readBoth_15 rfl ?_
      refine pE_callV (d' := 5) (as := [_]) dX8_readBoth_17 lkX8_58 (cwX8_isNext _ _) ivX8_isNext ⟨_, rfl, rfl⟩ (by first | assumption | rfl) rfl rfl (Nat.le_of_ble_eq_true rfl) (by omega) pKK ?_
      refine M_X8_isNext hv.rd (by decide) (fun z => ?_) (fun z => ?_)
      · have hc := and_y z
        refine pE_if_eq_f (tgt := 45) dX8_readBoth_20 (by decide) nI_1n0 ?_
        refine pE_aload_n dX8_readBoth_23 rfl rfl ?_
        refine pE_callV (d' := 6) (as := []) dX8_readBoth_24 lkX8_85 (cwX8_step _ _) ivX8_step ⟨_, rfl, rfl⟩ (by first | assumption | rfl) rfl rfl (Nat.le_of_ble_eq_true rfl) (by omega) pKK ?_
        refine M_X8_stepS hf (hT.r3 hf hx) hv (fun I2 J2 x1 x2 x3 => ?_)
        refine pE_aload_n dX8_readBoth_27 rfl rfl ?_
        refine pE_aload_n dX8_readBoth_28 rfl rfl ?_
        refine pE_iload_n dX8_readBoth_29 rfl rfl ?_
        refine pE_callV (d' := D) (as := [_, _]) dX8_readBoth_30 lkX8_186 (cwX8_readOne _ _) ivX8_readOne ⟨_, rfl, rfl⟩ (by first | assumption | rfl) rfl rfl (Nat.le_of_ble_eq_true rfl) (by omega) pKK ?_
        refine hU _ _ _ _ (hT.r3 hf (hx.tr x1)) x3 (fun I3 J3 y1 y2 y3 => ?_)
        refine pE_aload_n dX8_readBoth_33 rfl rfl ?_
        refine pE_bipush (v := nI 38) dX8_readBoth_34 rfl ?_
        refine pE_callV (d' := 1) (as := [_]) dX8_readBoth_36 lkX8_183 (cwX1_add _ _) ivX1_add ⟨_, rfl, rfl⟩ (by first | assumption | rfl) rfl rfl (Nat.le_of_ble_eq_true rfl) (by omega) pKK ?_
        refine M_X1_addS hf y3 (fun I4 w1 w2 => ?_)
        refine pE_iincN (c0 := 1) (lc' := [_, _, _, some (.int _)]) dX8_readBoth_39 rfl rfl rfl rfl ?_
        refine pE_goto (tgt := 8) dX8_readBoth_42 (by decide) ?_
        exact ih (j + 1) _ _ _ (by omega) (by omega) (hx.tr (x1.tr (y1.tr w1))) (jx.tr (x2.tr y2)) w2 ((lpS_y g11 hc).symm.trans hl)
      · have hc := and_n z
        refine pE_if_eq_t (tgt := 45) dX8_readBoth_20 (by decide) nI_0 ?_
        refine pE_vret dX8_readBoth_45 rfl rfl ?_
        first
        | (have e0 : lpS B n 2 U (30 - j) s1 = s1 := by
             rw [show 30 - j = 0 by omega]; rfl
           rw [e0] at hl
           rw [← hl] at hq
           exact hq I1 J1 hx jx hv)
        | (rw [lpS_no hc] at hl
           rw [← hl] at hq
           exact hq I1 J1 hx jx hv)
set_option maxHeartbeats 400000 in
set_option maxRecDepth 100000 in
theorem R_X8_readBoth {l : Launch} {X : pX} {t g : Nat} {n f e D : Nat} {B : Nat → Nat} {U : pPS → pPS} (hf : isF f) (hD : 7 ≤ D) (hU : pRC l X t g B n f yX8_readOne mX8_readOne D e U) : pRC l X t g B n f yX8_readBoth mX8_readBoth (D + 1) e (boS B n U) := by
  intro I J Q s hT hv hq
  obtain ⟨fFf0, fFf1, fFf2, fFf3, fFf4, fFf5, fFf6⟩ := FF t g hf
  refine pM_of rfl (fun h => by cases h) rfl pKM (Nat.le_of_ble_eq_true rfl) ?_
  refine pE_aload_n dX8_readBoth_0 rfl rfl ?_
  refine pE_aload_n dX8_readBoth_1 rfl rfl ?_
  refine pE_iload_n dX8_readBoth_2 rfl rfl ?_
  refine pE_callV (d' := D) (as := [_, _]) dX8_readBoth_3 lkX8_186 (cwX8_readOne _ _) ivX8_readOne ⟨_, rfl, rfl⟩ (by first | assumption | rfl) rfl rfl (Nat.le_of_ble_eq_true rfl) (by omega) pKK ?_
  refine hU _ _ _ _ hT hv (fun I1 J1 x1 x2 x3 => ?_)
  refine pE_iconst (v := nI 0) dX8_readBoth_6 rfl ?_
  refine pE_istore_n (lc' := [_, _, _, some (.int _)]) dX8_readBoth_7 rfl (Nat.le_of_ble_eq_true rfl) rfl rfl ?_
  exact L_X8_readBoth hD hU hf hT hq 31 0 _ _ _ (by omega) (by omega) x1 x2 x3 rfl
set_option maxHeartbeats 400000 in
set_option maxRecDepth 100000 in
theorem L_X8_readEither {l : Launch} {X : pX} {t g : Nat} {I : pHI} {J : pHJ} {Q : pQ} {n f e : Nat} {B : Nat → Nat} {D : Nat} {U : pPS → pPS} {z : pPS} (hD : 7 ≤ D) (hU : pRC l X t g B n f yX8_readBoth mX8_readBoth D e U) (hf : isF f) (hT : tpC I n B) (hq : ∀ I1 J1, sR3 f I I1 → j4 J J1 → cPs B n f I1 J1 z → Q none I1 J1 (pR t g)) : ∀ (fu : Nat) (j : Nat) (s1 : pPS) (I1 : pHI) (J1 : pHJ), 30 - j < fu → (j ≤ 30) → (sR3 f I I1) → (j4 J J1) → (cPs B n f I1 J1 s1) → (lpS B n 1 U (30 - j) s1 = z) → pE l X mX8_readEither (D + 1) pK 8 [some (.ref 2), some (.ref f), some (.int (nI e)), some (.int (nI j))] [] pK I1 J1 (pR t g) Q := by
  intro fu
  induction fu with
  | zero => intro j s1 I1 J1 hn; exact absurd hn (Nat.not_lt_zero _)
  | succ fu ih =>
    intro j s1 I1 J1 hn hj hx jx hv hl
    obtain ⟨fFf0, fFf1, fFf2, fFf3, fFf4, fFf5, fFf6⟩ := FF t g hf
    have hfb := isF_b hf
    refine pE_iload_n dX8_readEither_8 rfl rfl ?_
    refine pE_bipush (v := nI 30) dX8_readEither_9 rfl ?_
    refine pE_icmp_ge (tgt := 45) dX8_readEither_11 (by decide) (fun h11 => ?_) (fun h11 => ?_)
    · have g11 := nq_le (by omega) (by omega) h11
      refine pE_vret dX8_readEither_45 rfl rfl ?_
      first
      | (have e0 : lpS B n 1 U (30 - j) s1 = s1 := by
           rw [show 30 - j = 0 by omega]; rfl
         rw [e0] at hl
         rw [← hl] at hq
         exact hq I1 J1 hx jx hv)
      | (rw [lpS_no hc] at hl
         rw [← hl] at hq
         exact hq I1 J1 hx jx hv)
    · have g11 := nq_nle (by omega) (by omega) h11
      refine pE_aload_n dX8_readEither_14 rfl rfl ?_
      refine pE_ldcS (i := 16) dX8_readEither_15 rfl ?_
      refine pE_callV (d' := 5) (as := [_]) dX8_readEither_17 lkX8_58 (cwX8_isNext _ _) ivX8_isNext ⟨_, rfl, rfl⟩ (by first | assumption | rfl) rfl rfl (Nat.le_of_ble_eq_true rfl) (by omega) pKK ?_
      refine M_X8_isNext hv.rd (by decide) (fun z => ?_) (fun z => ?_)
      · have hc := or_y z
        refine pE_if_eq_f (tgt := 45) dX8_readEither_20 (by decide) nI_1n0 ?_
        refine pE_aload_n dX8_readEither_23 rfl rfl ?_
        refine pE_callV (d' := 6) (as := []) dX8_readEither_24 lkX8_85 (cwX8_step _ _) ivX8_step ⟨_, rfl, rfl⟩ (by first | assumption | rfl) rfl rfl (Nat.le_of_ble_eq_true rfl) (by omega) pKK ?_
        refine M_X8_stepS hf (hT.r3 hf hx) hv (fun I2 J2 x1 x2 x3 => ?_)
        refine pE_aload_n dX8_readEither_27 rfl rfl ?_
        refine pE_aload_n dX8_readEither_28 rfl rfl ?_
        refine pE_iload_n dX8_readEither_29 rfl rfl ?_
        refine pE_callV (d' := D) (as := [_, _]) dX8_readEither_30 lkX8_178 (cwX8_readBoth _ _) ivX8_readBoth ⟨_, rfl, rfl⟩ (by first | assumption | rfl) rfl rfl (Nat.le_of_ble_eq_true rfl) (by omega) pKK ?_
        refine hU _ _ _ _ (hT.r3 hf (hx.tr x1)) x3 (fun I3 J3 y1 y2 y3 => ?_)
        refine pE_aload_n dX8_readEither_33 rfl rfl ?_
        refine pE_bipush (v := nI 124) dX8_readEither_34 rfl ?_
        refine pE_callV (d' := 1) (as := [_]) dX8_readEither_36 lkX8_183 (cwX1_add _ _) ivX1_add ⟨_, rfl, rfl⟩ (by first | assumption | rfl) rfl rfl (Nat.le_of_ble_eq_true rfl) (by omega) pKK ?_
        refine M_X1_addS hf y3 (fun I4 w1 w2 => ?_)
        refine pE_iincN (c0 := 1) (lc' := [_, _, _, some (.int _)]) dX8_readEither_39 rfl rfl rfl rfl ?_
        refine pE_goto (tgt := 8) dX8_readEither_42 (by decide) ?_
        exact ih (j + 1) _ _ _ (by omega) (by omega) (hx.tr (x1.tr (y1.tr w1))) (jx.tr (x2.tr y2)) w2 ((lpS_y g11 hc).symm.trans hl)
      · have hc := or_n z
        refine pE_if_eq_t (tgt := 45) dX8_readEither_20 (by decide) nI_0 ?_
        refine pE_vret dX8_readEither_45 rfl rfl ?_
        first
        | (have e0 : lpS B n 1 U (30 - j) s1 = s1 := by
             rw [show 30 - j = 0 by omega]; rfl
           rw [e0] at hl
           rw [← hl] at hq
           exact hq I1 J1 hx jx hv)
        | (rw [lpS_no hc] at hl
           rw [← hl] at hq
           exact hq I1 J1 hx jx hv)
set_option maxHeartbeats 400000 in
set_option maxRecDepth 100000 in
theorem R_X8_readEither {l : Launch} {X : pX} {t g : Nat} {n f e D : Nat} {B : Nat → Nat} {U : pPS → pPS} (hf : isF f) (hD : 7 ≤ D) (hU : pRC l X t g B n f yX8_readBoth mX8_readBoth D e U) : pRC l X t g B n f yX8_readEither mX8_readEither (D + 1) e (fun s => lpS B n 1 U 30 (U s)) := by
  intro I J Q s hT hv hq
  obtain ⟨fFf0, fFf1, fFf2, fFf3, fFf4, fFf5, fFf6⟩ := FF t g hf
  refine pM_of rfl (fun h => by cases h) rfl pKM (Nat.le_of_ble_eq_true rfl) ?_
  refine pE_aload_n dX8_readEither_0 rfl rfl ?_
  refine pE_aload_n dX8_readEither_1 rfl rfl ?_
  refine pE_iload_n dX8_readEither_2 rfl rfl ?_
  refine pE_callV (d' := D) (as := [_, _]) dX8_readEither_3 lkX8_178 (cwX8_readBoth _ _) ivX8_readBoth ⟨_, rfl, rfl⟩ (by first | assumption | rfl) rfl rfl (Nat.le_of_ble_eq_true rfl) (by omega) pKK ?_
  refine hU _ _ _ _ hT hv (fun I1 J1 x1 x2 x3 => ?_)
  refine pE_iconst (v := nI 0) dX8_readEither_6 rfl ?_
  refine pE_istore_n (lc' := [_, _, _, some (.int _)]) dX8_readEither_7 rfl (Nat.le_of_ble_eq_true rfl) rfl rfl ?_
  exact L_X8_readEither hD hU hf hT hq 31 0 _ _ _ (by omega) (by omega) x1 x2 x3 rfl
set_option maxHeartbeats 400000 in
set_option maxRecDepth 100000 in
theorem R_X8_readRelation {l : Launch} {X : pX} {t g : Nat} {n f e D : Nat} {B : Nat → Nat} {U : pPS → pPS} (hf : isF f) (hD : 7 ≤ D) (hU : pRC l X t g B n f yX8_readSum mX8_readSum D e (suS B n U)) : pRC l X t g B n f yX8_readRelation mX8_readRelation (D + 1) e (reS B n U) := by
  intro I J Q s hT hv hq
  obtain ⟨fFf0, fFf1, fFf2, fFf3, fFf4, fFf5, fFf6⟩ := FF t g hf
  refine pM_of rfl (fun h => by cases h) rfl pKM (Nat.le_of_ble_eq_true rfl) ?_
  refine pE_aload_n dX8_readRelation_0 rfl rfl ?_
  refine pE_aload_n dX8_readRelation_1 rfl rfl ?_
  refine pE_iload_n dX8_readRelation_2 rfl rfl ?_
  refine pE_callV (d' := D) (as := [_, _]) dX8_readRelation_3 lkX8_196 (cwX8_readSum _ _) ivX8_readSum ⟨_, rfl, rfl⟩ (by first | assumption | rfl) rfl rfl (Nat.le_of_ble_eq_true rfl) (by omega) pKK ?_
  refine hU _ _ _ _ hT hv (fun I1 J1 x1 x2 x3 => ?_)
  refine pE_aload_n dX8_readRelation_6 rfl rfl ?_
  refine pE_getR dX8_readRelation_7 flX8_40 rfl (by first | assumption | rfl) (by first | assumption | rfl) ?_
  refine pE_getI dX8_readRelation_10 flX8_199 rfl (Or.inl rfl) (by first | assumption | rfl) ?_
  refine pE_istore_n (lc' := [_, _, _, some (.int _)]) dX8_readRelation_13 rfl (Nat.le_of_ble_eq_true rfl) rfl rfl ?_
  refine pE_aload_n dX8_readRelation_14 rfl rfl ?_
  refine pE_bipush (v := nI 60) dX8_readRelation_15 rfl ?_
  refine pE_callV (d' := 5) (as := [_]) dX8_readRelation_17 lkX8_202 (cwX8_isNextSign _ _) ivX8_isNextSign ⟨_, rfl, rfl⟩ (by first | assumption | rfl) rfl rfl (Nat.le_of_ble_eq_true rfl) (by omega) pKK ?_
  refine M_X8_isNextSign x3.rd (show 60 < 256 by omega) (fun z60 => ?_) (fun z60 => ?_)
  · have hcy := op_y (show isOp 60 = true from rfl) z60
    rw [show tgt 60 = 4 from rfl] at hcy
    obtain ⟨hc, xx, e0, e1⟩ := hcy
    have hsg : I1 4 6 = nI 60 := by rw [e0] at x3; exact x3.sgn e1 (by omega)
    rw [hsg]
    refine pE_if_ne_t (tgt := 41) dX8_readRelation_20 (by decide) nI_1n0 ?_
    refine pE_aload_n dX8_readRelation_41 rfl rfl ?_
    refine pE_callV (d' := 6) (as := []) dX8_readRelation_42 lkX8_85 (cwX8_step _ _) ivX8_step ⟨_, rfl, rfl⟩ (by first | assumption | rfl) rfl rfl (Nat.le_of_ble_eq_true rfl) (by omega) pKK ?_
    refine M_X8_stepS hf (hT.r3 hf x1) x3 (fun I2 J2 a1 a2 a3 => ?_)
    refine pE_aload_n dX8_readRelation_45 rfl rfl ?_
    refine pE_aload_n dX8_readRelation_46 rfl rfl ?_
    refine pE_iload_n dX8_readRelation_47 rfl rfl ?_
    refine pE_callV (d' := D) (as := [_, _]) dX8_readRelation_48 lkX8_196 (cwX8_readSum _ _) ivX8_readSum ⟨_, rfl, rfl⟩ (by first | assumption | rfl) rfl rfl (Nat.le_of_ble_eq_true rfl) (by omega) pKK ?_
    refine hU _ _ _ _ (hT.r3 hf (x1.tr a1)) a3 (fun I3 J3 b1 b2 b3 => ?_)
    refine pE_aload_n dX8_readRelation_51 rfl rfl ?_
    refine pE_iload_n dX8_readRelation_52 rfl rfl ?_
    refine pE_callV (d' := 1) (as := [_]) dX8_readRelation_53 lkX8_183 (cwX1_add _ _) ivX1_add ⟨_, rfl, rfl⟩ (by first | assumption | rfl) rfl rfl (Nat.le_of_ble_eq_true rfl) (by omega) pKK ?_
    refine M_X1_addS hf b3 (fun I4 d1 d2 => ?_)
    refine pE_vret dX8_readRelation_56 rfl rfl ?_
    first
    | (simp only [reS, re2, hc] at hq
       exact hq I4 J3 (x1.tr (a1.tr (b1.tr d1))) (x2.tr (a2.tr b2)) d2)
    | (have hc : cTS B n 4 (suS B n U s) = none := op4_n z60 z62 z61
       simp only [reS, re2, hc] at hq
       exact hq I1 J1 x1 x2 x3)
  · refine pE_if_ne_f (tgt := 41) dX8_readRelation_20 (by decide) nI_0 ?_
    refine pE_aload_n dX8_readRelation_23 rfl rfl ?_
    refine pE_bipush (v := nI 62) dX8_readRelation_24 rfl ?_
    refine pE_callV (d' := 5) (as := [_]) dX8_readRelation_26 lkX8_202 (cwX8_isNextSign _ _) ivX8_isNextSign ⟨_, rfl, rfl⟩ (by first | assumption | rfl) rfl rfl (Nat.le_of_ble_eq_true rfl) (by omega) pKK ?_
    refine M_X8_isNextSign x3.rd (show 62 < 256 by omega) (fun z62 => ?_) (fun z62 => ?_)
    · have hcy := op_y (show isOp 62 = true from rfl) z62
      rw [show tgt 62 = 4 from rfl] at hcy
      obtain ⟨hc, xx, e0, e1⟩ := hcy
      have hsg : I1 4 6 = nI 62 := by rw [e0] at x3; exact x3.sgn e1 (by omega)
      rw [hsg]
      refine pE_if_ne_t (tgt := 41) dX8_readRelation_29 (by decide) nI_1n0 ?_
      refine pE_aload_n dX8_readRelation_41 rfl rfl ?_
      refine pE_callV (d' := 6) (as := []) dX8_readRelation_42 lkX8_85 (cwX8_step _ _) ivX8_step ⟨_, rfl, rfl⟩ (by first | assumption | rfl) rfl rfl (Nat.le_of_ble_eq_true rfl) (by omega) pKK ?_
      refine M_X8_stepS hf (hT.r3 hf x1) x3 (fun I2 J2 a1 a2 a3 => ?_)
      refine pE_aload_n dX8_readRelation_45 rfl rfl ?_
      refine pE_aload_n dX8_readRelation_46 rfl rfl ?_
      refine pE_iload_n dX8_readRelation_47 rfl rfl ?_
      refine pE_callV (d' := D) (as := [_, _]) dX8_readRelation_48 lkX8_196 (cwX8_readSum _ _) ivX8_readSum ⟨_, rfl, rfl⟩ (by first | assumption | rfl) rfl rfl (Nat.le_of_ble_eq_true rfl) (by omega) pKK ?_
      refine hU _ _ _ _ (hT.r3 hf (x1.tr a1)) a3 (fun I3 J3 b1 b2 b3 => ?_)
      refine pE_aload_n dX8_readRelation_51 rfl rfl ?_
      refine pE_iload_n dX8_readRelation_52 rfl rfl ?_
      refine pE_callV (d' := 1) (as := [_]) dX8_readRelation_53 lkX8_183 (cwX1_add _ _) ivX1_add ⟨_, rfl, rfl⟩ (by first | assumption | rfl) rfl rfl (Nat.le_of_ble_eq_true rfl) (by omega) pKK ?_
      refine M_X1_addS hf b3 (fun I4 d1 d2 => ?_)
      refine pE_vret dX8_readRelation_56 rfl rfl ?_
      first
      | (simp only [reS, re2, hc] at hq
         exact hq I4 J3 (x1.tr (a1.tr (b1.tr d1))) (x2.tr (a2.tr b2)) d2)
      | (have hc : cTS B n 4 (suS B n U s) = none := op4_n z60 z62 z61
         simp only [reS, re2, hc] at hq
         exact hq I1 J1 x1 x2 x3)
    · refine pE_if_ne_f (tgt := 41) dX8_readRelation_29 (by decide) nI_0 ?_
      refine pE_aload_n dX8_readRelation_32 rfl rfl ?_
      refine pE_bipush (v := nI 61) dX8_readRelation_33 rfl ?_
      refine pE_callV (d' := 5) (as := [_]) dX8_readRelation_35 lkX8_202 (cwX8_isNextSign _ _) ivX8_isNextSign ⟨_, rfl, rfl⟩ (by first | assumption | rfl) rfl rfl (Nat.le_of_ble_eq_true rfl) (by omega) pKK ?_
      refine M_X8_isNextSign x3.rd (show 61 < 256 by omega) (fun z61 => ?_) (fun z61 => ?_)
      · have hcy := op_y (show isOp 61 = true from rfl) z61
        rw [show tgt 61 = 4 from rfl] at hcy
        obtain ⟨hc, xx, e0, e1⟩ := hcy
        have hsg : I1 4 6 = nI 61 := by rw [e0] at x3; exact x3.sgn e1 (by omega)
        rw [hsg]
        refine pE_if_eq_f (tgt := 56) dX8_readRelation_38 (by decide) nI_1n0 ?_
        refine pE_aload_n dX8_readRelation_41 rfl rfl ?_
        refine pE_callV (d' := 6) (as := []) dX8_readRelation_42 lkX8_85 (cwX8_step _ _) ivX8_step ⟨_, rfl, rfl⟩ (by first | assumption | rfl) rfl rfl (Nat.le_of_ble_eq_true rfl) (by omega) pKK ?_
        refine M_X8_stepS hf (hT.r3 hf x1) x3 (fun I2 J2 a1 a2 a3 => ?_)
        refine pE_aload_n dX8_readRelation_45 rfl rfl ?_
        refine pE_aload_n dX8_readRelation_46 rfl rfl ?_
        refine pE_iload_n dX8_readRelation_47 rfl rfl ?_
        refine pE_callV (d' := D) (as := [_, _]) dX8_readRelation_48 lkX8_196 (cwX8_readSum _ _) ivX8_readSum ⟨_, rfl, rfl⟩ (by first | assumption | rfl) rfl rfl (Nat.le_of_ble_eq_true rfl) (by omega) pKK ?_
        refine hU _ _ _ _ (hT.r3 hf (x1.tr a1)) a3 (fun I3 J3 b1 b2 b3 => ?_)
        refine pE_aload_n dX8_readRelation_51 rfl rfl ?_
        refine pE_iload_n dX8_readRelation_52 rfl rfl ?_
        refine pE_callV (d' := 1) (as := [_]) dX8_readRelation_53 lkX8_183 (cwX1_add _ _) ivX1_add ⟨_, rfl, rfl⟩ (by first | assumption | rfl) rfl rfl (Nat.le_of_ble_eq_true rfl) (by omega) pKK ?_
        refine M_X1_addS hf b3 (fun I4 d1 d2 => ?_)
        refine pE_vret dX8_readRelation_56 rfl rfl ?_
        first
        | (simp only [reS, re2, hc] at hq
           exact hq I4 J3 (x1.tr (a1.tr (b1.tr d1))) (x2.tr (a2.tr b2)) d2)
        | (have hc : cTS B n 4 (suS B n U s) = none := op4_n z60 z62 z61
           simp only [reS, re2, hc] at hq
           exact hq I1 J1 x1 x2 x3)
      · refine pE_if_eq_t (tgt := 56) dX8_readRelation_38 (by decide) nI_0 ?_
        refine pE_vret dX8_readRelation_56 rfl rfl ?_
        first
        | (simp only [reS, re2, hc] at hq
           exact hq I4 J3 (x1.tr (a1.tr (b1.tr d1))) (x2.tr (a2.tr b2)) d2)
        | (have hc : cTS B n 4 (suS B n U s) = none := op4_n z60 z62 z61
           simp only [reS, re2, hc] at hq
           exact hq I1 J1 x1 x2 x3)
set_option maxHeartbeats 400000 in
set_option maxRecDepth 100000 in
theorem R_X8_readOne0 {l : Launch} {X : pX} {t g : Nat} {n f e D : Nat} {B : Nat → Nat} {U : pPS → pPS} (hf : isF f) (hD : 7 ≤ D) (hU : pRC l X t g B n f yX8_readRelation mX8_readRelation D e (reS B n U)) (he : 6 < e ∧ e < 100) : pRC l X t g B n f yX8_readOne mX8_readOne (D + 1) e (onS B n U (f2S B n)) := by
  intro I J Q s hT hv hq
  obtain ⟨fFf0, fFf1, fFf2, fFf3, fFf4, fFf5, fFf6⟩ := FF t g hf
  refine pM_of rfl (fun h => by cases h) rfl pKM (Nat.le_of_ble_eq_true rfl) ?_
  refine pE_aload_n dX8_readOne_0 rfl rfl ?_
  refine pE_ldcS (i := 11) dX8_readOne_1 rfl ?_
  refine pE_callV (d' := 5) (as := [_]) dX8_readOne_3 lkX8_58 (cwX8_isNext _ _) ivX8_isNext ⟨_, rfl, rfl⟩ (by first | assumption | rfl) rfl rfl (Nat.le_of_ble_eq_true rfl) (by omega) pKK ?_
  refine M_X8_isNext hv.rd (by decide) (fun z => ?_) (fun z => ?_)
  · have hi : isNt B n s = true := by cases s with | inl e1 => cases z | inr x => exact z
    unfold onS at hq
    rw [if_pos hi] at hq
    refine pE_if_ne_t (tgt := 18) dX8_readOne_6 (by decide) nI_1n0 ?_
    refine pE_iload_n dX8_readOne_18 rfl rfl ?_
    refine pE_bipush (v := nI 6) dX8_readOne_19 rfl ?_
    refine pE_icmp_le (tgt := 32) dX8_readOne_21 (by decide) (fun h21 => ?_) (fun h21 => ?_)
    · have g21 := nq_le (by omega) (by omega) h21
      omega
    · have g21 := nq_nle (by omega) (by omega) h21
      refine pE_aload_n dX8_readOne_24 rfl rfl ?_
      refine pE_iconst (v := nI 2) dX8_readOne_25 rfl ?_
      refine pE_callV (d' := 0) (as := [_]) dX8_readOne_26 lkX8_82 (cwX8_fail _ _) ivX8_fail ⟨_, rfl, rfl⟩ (by first | assumption | rfl) rfl rfl (Nat.le_of_ble_eq_true rfl) (by omega) pKK ?_
      refine M_X8_failS hT hv (fun I1 x1 x2 => ?_)
      refine pE_goto (tgt := 50) dX8_readOne_29 (by decide) ?_
      refine pE_vret dX8_readOne_50 rfl rfl ?_
      first
      | (exact hq I1 J1 x1 x2 x3)
      | (exact hq I1 J x1 j4.rf x2)
  · have hi : ¬ isNt B n s = true := by cases s with | inl e1 => exact fun y => by cases y | inr x => exact z
    unfold onS at hq
    rw [if_neg hi] at hq
    refine pE_if_ne_f (tgt := 18) dX8_readOne_6 (by decide) nI_0 ?_
    refine pE_aload_n dX8_readOne_9 rfl rfl ?_
    refine pE_aload_n dX8_readOne_10 rfl rfl ?_
    refine pE_iload_n dX8_readOne_11 rfl rfl ?_
    refine pE_callV (d' := D) (as := [_, _]) dX8_readOne_12 lkX8_193 (cwX8_readRelation _ _) ivX8_readRelation ⟨_, rfl, rfl⟩ (by first | assumption | rfl) rfl rfl (Nat.le_of_ble_eq_true rfl) (by omega) pKK ?_
    refine hU _ _ _ _ hT hv (fun I1 J1 x1 x2 x3 => ?_)
    refine pE_goto (tgt := 50) dX8_readOne_15 (by decide) ?_
    refine pE_vret dX8_readOne_50 rfl rfl ?_
    first
    | (exact hq I1 J1 x1 x2 x3)
    | (exact hq I1 J x1 j4.rf x2)
set_option maxHeartbeats 400000 in
set_option maxRecDepth 100000 in
theorem R_X8_readOneS {l : Launch} {X : pX} {t g : Nat} {n f e D D2 : Nat} {B : Nat → Nat} {U N : pPS → pPS} (hf : isF f) (hD : 7 ≤ D) (hU : pRC l X t g B n f yX8_readRelation mX8_readRelation D e (reS B n U)) (he : e ≤ 6) (hD2 : D2 ≤ D) (hN : pRC l X t g B n f yX8_readOne mX8_readOne D2 (e + 1) N) : pRC l X t g B n f yX8_readOne mX8_readOne (D + 1) e (onS B n U (fun s => adS (7, 0) (N (stS B n s)))) := by
  intro I J Q s hT hv hq
  obtain ⟨fFf0, fFf1, fFf2, fFf3, fFf4, fFf5, fFf6⟩ := FF t g hf
  refine pM_of rfl (fun h => by cases h) rfl pKM (Nat.le_of_ble_eq_true rfl) ?_
  refine pE_aload_n dX8_readOne_0 rfl rfl ?_
  refine pE_ldcS (i := 11) dX8_readOne_1 rfl ?_
  refine pE_callV (d' := 5) (as := [_]) dX8_readOne_3 lkX8_58 (cwX8_isNext _ _) ivX8_isNext ⟨_, rfl, rfl⟩ (by first | assumption | rfl) rfl rfl (Nat.le_of_ble_eq_true rfl) (by omega) pKK ?_
  refine M_X8_isNext hv.rd (by decide) (fun z => ?_) (fun z => ?_)
  · have hi : isNt B n s = true := by cases s with | inl e1 => cases z | inr x => exact z
    unfold onS at hq
    rw [if_pos hi] at hq
    refine pE_if_ne_t (tgt := 18) dX8_readOne_6 (by decide) nI_1n0 ?_
    refine pE_iload_n dX8_readOne_18 rfl rfl ?_
    refine pE_bipush (v := nI 6) dX8_readOne_19 rfl ?_
    refine pE_icmp_le (tgt := 32) dX8_readOne_21 (by decide) (fun h21 => ?_) (fun h21 => ?_)
    · have g21 := nq_le (by omega) (by omega) h21
      refine pE_aload_n dX8_readOne_32 rfl rfl ?_
      refine pE_callV (d' := 6) (as := []) dX8_readOne_33 lkX8_85 (cwX8_step _ _) ivX8_step ⟨_, rfl, rfl⟩ (by first | assumption | rfl) rfl rfl (Nat.le_of_ble_eq_true rfl) (by omega) pKK ?_
      refine M_X8_stepS hf hT hv (fun I2 J2 a1 a2 a3 => ?_)
      refine pE_aload_n dX8_readOne_36 rfl rfl ?_
      refine pE_aload_n dX8_readOne_37 rfl rfl ?_
      refine pE_iload_n dX8_readOne_38 rfl rfl ?_
      refine pE_iconst (v := nI 1) dX8_readOne_39 rfl ?_
      refine pE_iaddN dX8_readOne_40 ?_
      refine pE_callV (d' := D2) (as := [_, _]) dX8_readOne_41 lkX8_186 (cwX8_readOne _ _) ivX8_readOne ⟨_, rfl, rfl⟩ (by first | assumption | rfl) rfl rfl (Nat.le_of_ble_eq_true rfl) (by omega) pKK ?_
      refine hN _ _ _ _ (hT.r3 hf a1) a3 (fun I3 J3 b1 b2 b3 => ?_)
      refine pE_aload_n dX8_readOne_44 rfl rfl ?_
      refine pE_bipush (v := nI 7) dX8_readOne_45 rfl ?_
      refine pE_callV (d' := 1) (as := [_]) dX8_readOne_47 lkX8_183 (cwX1_add _ _) ivX1_add ⟨_, rfl, rfl⟩ (by first | assumption | rfl) rfl rfl (Nat.le_of_ble_eq_true rfl) (by omega) pKK ?_
      refine M_X1_addS hf b3 (fun I4 d1 d2 => ?_)
      refine pE_vret dX8_readOne_50 rfl rfl ?_
      first
      | (exact hq I4 J3 (a1.tr (b1.tr d1)) (a2.tr b2) d2)
      | (exact hq I1 J1 x1 x2 x3)
    · have g21 := nq_nle (by omega) (by omega) h21
      omega
  · have hi : ¬ isNt B n s = true := by cases s with | inl e1 => exact fun y => by cases y | inr x => exact z
    unfold onS at hq
    rw [if_neg hi] at hq
    refine pE_if_ne_f (tgt := 18) dX8_readOne_6 (by decide) nI_0 ?_
    refine pE_aload_n dX8_readOne_9 rfl rfl ?_
    refine pE_aload_n dX8_readOne_10 rfl rfl ?_
    refine pE_iload_n dX8_readOne_11 rfl rfl ?_
    refine pE_callV (d' := D) (as := [_, _]) dX8_readOne_12 lkX8_193 (cwX8_readRelation _ _) ivX8_readRelation ⟨_, rfl, rfl⟩ (by first | assumption | rfl) rfl rfl (Nat.le_of_ble_eq_true rfl) (by omega) pKK ?_
    refine hU _ _ _ _ hT hv (fun I1 J1 x1 x2 x3 => ?_)
    refine pE_goto (tgt := 50) dX8_readOne_15 (by decide) ?_
    refine pE_vret dX8_readOne_50 rfl rfl ?_
    first
    | (exact hq I4 J3 (a1.tr (b1.tr d1)) (a2.tr b2) d2)
    | (exact hq I1 J1 x1 x2 x3)
set_option maxHeartbeats 400000 in
set_option maxRecDepth 100000 in
theorem R_X8_readBracket0 {l : Launch} {X : pX} {t g : Nat} {n f e D : Nat} {B : Nat → Nat} (hD : 1 ≤ D) (he : 6 < e ∧ e < 100) : pRC l X t g B n f yX8_readBracket mX8_readBracket D e (f2S B n) := by
  intro I J Q s hT hv hq
  refine pM_of rfl (fun h => by cases h) rfl pKM (Nat.le_of_ble_eq_true rfl) ?_
  refine pE_iload_n dX8_readBracket_0 rfl rfl ?_
  refine pE_bipush (v := nI 6) dX8_readBracket_1 rfl ?_
  refine pE_icmp_le (tgt := 12) dX8_readBracket_3 (by decide) (fun h3 => ?_) (fun h3 => ?_)
  · have g3 := nq_le (by omega) (by omega) h3
    omega
  · have g3 := nq_nle (by omega) (by omega) h3
    refine pE_aload_n dX8_readBracket_6 rfl rfl ?_
    refine pE_iconst (v := nI 2) dX8_readBracket_7 rfl ?_
    refine pE_callV (d' := 0) (as := [_]) dX8_readBracket_8 lkX8_82 (cwX8_fail _ _) ivX8_fail ⟨_, rfl, rfl⟩ (by first | assumption | rfl) rfl rfl (Nat.le_of_ble_eq_true rfl) (by omega) pKK ?_
    refine M_X8_failS hT hv (fun I1 x1 x2 => ?_)
    refine pE_vret dX8_readBracket_11 rfl rfl ?_
    exact hq I1 J x1 j4.rf x2
set_option maxHeartbeats 400000 in
set_option maxRecDepth 100000 in
theorem R_X8_readBracketS {l : Launch} {X : pX} {t g : Nat} {n f e D : Nat} {B : Nat → Nat} {E : pPS → pPS} (hf : isF f) (hD : 7 ≤ D) (he : e ≤ 6) (hE : pRC l X t g B n f yX8_readEither mX8_readEither D (e + 1) E) : pRC l X t g B n f yX8_readBracket mX8_readBracket (D + 1) e (fun s => ngS B n 41 (E (stS B n s))) := by
  intro I J Q s hT hv hq
  refine pM_of rfl (fun h => by cases h) rfl pKM (Nat.le_of_ble_eq_true rfl) ?_
  refine pE_iload_n dX8_readBracket_0 rfl rfl ?_
  refine pE_bipush (v := nI 6) dX8_readBracket_1 rfl ?_
  refine pE_icmp_le (tgt := 12) dX8_readBracket_3 (by decide) (fun h3 => ?_) (fun h3 => ?_)
  · have g3 := nq_le (by omega) (by omega) h3
    refine pE_aload_n dX8_readBracket_12 rfl rfl ?_
    refine pE_callV (d' := 6) (as := []) dX8_readBracket_13 lkX8_85 (cwX8_step _ _) ivX8_step ⟨_, rfl, rfl⟩ (by first | assumption | rfl) rfl rfl (Nat.le_of_ble_eq_true rfl) (by omega) pKK ?_
    refine M_X8_stepS hf hT hv (fun I1 J1 x1 x2 x3 => ?_)
    refine pE_aload_n dX8_readBracket_16 rfl rfl ?_
    refine pE_aload_n dX8_readBracket_17 rfl rfl ?_
    refine pE_iload_n dX8_readBracket_18 rfl rfl ?_
    refine pE_iconst (v := nI 1) dX8_readBracket_19 rfl ?_
    refine pE_iaddN dX8_readBracket_20 ?_
    refine pE_callV (d' := D) (as := [_, _]) dX8_readBracket_21 lkX8_173 (cwX8_readEither _ _) ivX8_readEither ⟨_, rfl, rfl⟩ (by first | assumption | rfl) rfl rfl (Nat.le_of_ble_eq_true rfl) (by omega) pKK ?_
    refine hE _ _ _ _ (hT.r3 hf x1) x3 (fun I2 J2 y1 y2 y3 => ?_)
    refine pE_aload_n dX8_readBracket_24 rfl rfl ?_
    refine pE_bipush (v := nI 41) dX8_readBracket_25 rfl ?_
    refine pE_callV (d' := 7) (as := [_]) dX8_readBracket_27 lkX8_97 (cwX8_readSign _ _) ivX8_readSign ⟨_, rfl, rfl⟩ (by first | assumption | rfl) rfl rfl (Nat.le_of_ble_eq_true rfl) (by omega) pKK ?_
    refine M_X8_readSignS hf (hT.r3 hf (x1.tr y1)) y3 (by omega) (fun I3 J3 z1 z2 z3 => ?_)
    refine pE_vret dX8_readBracket_30 rfl rfl ?_
    exact hq I3 J3 (x1.tr (y1.tr z1)) (x2.tr (y2.tr z2)) z3
  · have g3 := nq_nle (by omega) (by omega) h3
    omega
theorem R_one_of {l : Launch} {X : pX} {t g : Nat} {n f e D : Nat} {B : Nat → Nat} {BR : pPS → pPS} (hf : isF f) (hD : 7 ≤ D) (hBR : pRC l X t g B n f yX8_readBracket mX8_readBracket D e BR) : pRC l X t g B n f yX8_readRelation mX8_readRelation (D + 4) e (reS B n (unS B n BR)) :=
  R_X8_readRelation hf (by omega) (R_X8_readSum hf (by omega) (R_X8_readTerm hf (by omega) (R_X8_readUnit hf hD hBR)))
theorem R_ei_of {l : Launch} {X : pX} {t g : Nat} {n f e D : Nat} {B : Nat → Nat} {O : pPS → pPS} (hf : isF f) (hD : 7 ≤ D) (hO : pRC l X t g B n f yX8_readOne mX8_readOne D e O) : pRC l X t g B n f yX8_readEither mX8_readEither (D + 2) e (eiS B n O) :=
  R_X8_readEither hf (by omega) (R_X8_readBoth hf hD hO)
theorem R_one {l : Launch} {X : pX} {t g : Nat} {n f : Nat} {B : Nat → Nat} (hf : isF f) : ∀ r e, e + r = 7 → pRC l X t g B n f yX8_readOne mX8_readOne (12 + 8 * r) e (ONr B n r) := by
  intro r
  induction r with
  | zero => intro e he; exact R_X8_readOne0 (D := 11) hf (by omega) (R_one_of (D := 7) hf (by omega) (R_X8_readBracket0 (by omega) (by omega))) (by omega)
  | succ r ih =>
    intro e he
    have h1 := ih (e + 1) (by omega)
    have h2 := R_ei_of hf (by omega) h1
    have h3 := R_X8_readBracketS hf (by omega) (by omega) h2
    have h4 := R_one_of hf (by omega) h3
    have h5 := R_X8_readOneS hf (by omega) h4 (by omega) (by omega) h1
    rw [show 12 + 8 * (r + 1) = 12 + 8 * r + 2 + 1 + 4 + 1 by omega]
    exact h5
theorem R_either {l : Launch} {X : pX} {t g : Nat} {n f : Nat} {B : Nat → Nat} (hf : isF f) : pRC l X t g B n f yX8_readEither mX8_readEither 70 0 (foS B n) := R_ei_of (D := 68) hf (by omega) (R_one hf 7 0 (by omega))
