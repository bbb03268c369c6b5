/-! the numbers of a HOUSE: 0 storeys, 1 tenants, 2 the lift at first, 3 draw, 4 units; from 8 on who lives where, 16 strong, 24 heavy, 32 owes, 40 fails.
of a state: 0 breath, 8 paid, 16 debt, 24 climbed, 25 lift, 26 week, 27 seed -/
abbrev pN : Type := Nat → Nat
def cH (o : Nat) (H : pN) (I : pHI) : Prop := I o 0 = nI (H 0) ∧ I o 1 = nI (H 2) ∧ I o 2 = nI (H 1) ∧ I o 10 = nI (H 3) ∧ I o 11 = nI (H 4) ∧ ∀ j, j < 8 → I (o + 1) j = nI (H (8 + j)) ∧ I (o + 2) j = nI (H (16 + j)) ∧ I (o + 3) j = nI (H (24 + j)) ∧ I (o + 4) j = nI (H (32 + j)) ∧ I (o + 5) j = nI (H (40 + j))
def rH (H : pN) : Prop := (1 ≤ H 0 ∧ H 0 ≤ 20) ∧ H 1 ≤ 8 ∧ H 2 ≤ H 0 ∧ H 3 ≤ 999 ∧ ∀ j, j < 8 → H (8 + j) ≤ H 0 ∧ H (16 + j) ≤ 40 ∧ H (24 + j) ≤ 9 ∧ H (32 + j) ≤ 999 ∧ H (40 + j) ≤ 100
def cS (s : Nat) (T : pN) (I : pHI) : Prop := I s 3 = nI (T 24) ∧ I s 4 = nI (T 25) ∧ I s 5 = nI (T 26) ∧ I s 6 = nI (T 27) ∧ ∀ j, j < 8 → I (s + 1) j = nI (T j) ∧ I (s + 2) j = nI (T (8 + j)) ∧ I (s + 3) j = nI (T (16 + j))
def rS (B : Nat) (H T : pN) : Prop := T 25 ≤ H 0 ∧ T 26 ≤ B ∧ T 27 ≤ 999 ∧ B ≤ 10000 ∧ ∀ j, j < 8 → T j ≤ 40 ∧ T (8 + j) ≤ 9999 ∧ T (16 + j) ≤ 1000 * T 26
def mH (H : pN) (I : pHI) : Prop := I 67 41 = nI (H 0) ∧ I 67 42 = nI (H 1) ∧ I 67 23 = nI (H 4) ∧ ∀ j, j < H 1 → I 85 j = nI (H (8 + j)) ∧ I 86 j = nI (H (16 + j)) ∧ I 87 j = nI (H (24 + j)) ∧ I 88 j = nI (H (32 + j)) ∧ I 89 j = nI (H (40 + j))
def mS (a : Nat) (T : pN) (I : pHI) : Prop := ∀ k, k < 28 → I a k = nI (T k)
def lackN (H T : pN) (j : Nat) : Nat := H (32 + j) + T (16 + j) - T (8 + j)
def surpN (H T : pN) (j : Nat) : Nat := T (8 + j) - H (32 + j) - T (16 + j)
def hvN (H : pN) : Option Nat → Nat
  | none => 0
  | some j => H (24 + j)
def brN (s hv : Nat) : Nat := s * (1 + hv / 3)
/-! formulas: a row of steps (kind, number), as the class keeps them -/
abbrev pP : Type := List (Nat × Nat)
def dn (k : Nat) (a b : Int32) : Int32 :=
  if k = 37 then (if b = 0 then nI 0 else a - a / b * b) else if k = 38 then (if a = 0 then nI 0 else if b = 0 then nI 0 else nI 1) else if k = 42 then a * b else if k = 43 then a + b else if k = 45 then a - b else if k = 47 then (if b = 0 then nI 0 else a / b)
  else if k = 60 then (if b ≤ a then nI 0 else nI 1) else if k = 61 then (if a = b then nI 1 else nI 0) else if k = 62 then (if a ≤ b then nI 0 else nI 1) else (if a = 0 then (if b = 0 then nI 0 else nI 1) else nI 1)
def isSg (k : Nat) : Prop := k = 37 ∨ k = 38 ∨ k = 42 ∨ k = 43 ∨ k = 45 ∨ k = 47 ∨ k = 60 ∨ k = 61 ∨ k = 62 ∨ k = 124
def ev1 (x : Nat → Int32) (q : Nat × Nat) (s : List Int32) : List Int32 :=
  if q.1 = 0 then nI q.2 :: s else if q.1 ≤ 6 then x q.1 :: s else if q.1 = 7 then (match s with
    | a :: s' => (if a = 0 then nI 1 else nI 0) :: s'
    | [] => []) else (match s with
    | b :: a :: s' => dn q.1 a b :: s'
    | _ => [])
def evs (x : Nat → Int32) : pP → List Int32 → List Int32
  | [], s => s
  | q :: p, s => evs x p (ev1 x q s)
def ev (p : pP) (x : Nat → Int32) : Int32 := (evs x p []).headD 0
/-- it goes through, from so many on the stack, and leaves one -/
def wfp : pP → Nat → Prop
  | [], d => d = 1
  | q :: p, d => (q.1 ≤ 6 ∧ d + 1 ≤ 32 ∧ wfp p (d + 1)) ∨ (q.1 = 7 ∧ 1 ≤ d ∧ wfp p d) ∨ (isSg q.1 ∧ 2 ≤ d ∧ wfp p (d - 1))
def cF (f : Nat) (p : pP) (I : pHI) : Prop := p.length ≤ 300 ∧ I f 2 = nI p.length ∧ ∀ (i : Nat) (q : Nat × Nat), p[i]? = some q → I (f + 1) i = nI q.1 ∧ I (f + 2) i = nI q.2 ∧ q.1 ≤ 200 ∧ q.2 ≤ 9999
/-- the cells that a formula's working out writes -/
def scF (c k : Nat) : Prop := c = 14 ∨ c = 18 ∨ c = 28 ∨ c = 32 ∨ ((c = 11 ∨ c = 15 ∨ c = 25 ∨ c = 29) ∧ k = 4) ∨ c = 77 ∨ c = 79
def sb (I I' : pHI) : Prop := ∀ c k, ¬ scF c k → I' c k = I c k
theorem sb.rf {I : pHI} : sb I I := fun _ _ _ => rfl
theorem sb.tr {I I1 I2 : pHI} (h1 : sb I I1) (h2 : sb I1 I2) : sb I I2 := fun c k h => (h2 c k h).trans (h1 c k h)
theorem pu_at {α : Type} (f : Nat → Nat → α) (c k c' k' : Nat) (x : α) : pu f c k x c' k' = if c' = c ∧ k' = k then x else f c' k' := by
  by_cases h : c' = c
  · subst h
    rw [pu_eq]
    by_cases h2 : k' = k
    · subst h2; simp
    · simp [h2]
  · rw [pu_ne _ _ _ h]; simp [h]
theorem sb.pu {I I1 : pHI} {c k : Nat} {x : Int32} (h : sb I I1) (hs : scF c k) : sb I (pu I1 c k x) := by
  intro c' k' hn
  rw [pu_at]
  rw [if_neg (fun q => hn (by rw [q.1, q.2]; exact hs))]
  exact h c' k' hn
theorem scF_f {f : Nat} (h : isF f) : scF f 4 := by rcases h with rfl | rfl | rfl | rfl <;> simp [scF]
theorem scF_s {f : Nat} (h : isF f) (k : Nat) : scF (f + 3) k := by rcases h with rfl | rfl | rfl | rfl <;> simp [scF]
def stk (f : Nat) (s : List Int32) (I : pHI) : Prop := I f 4 = nI s.length ∧ ∀ (i : Nat) (x : Int32), s[i]? = some x → I (f + 3) (s.length - 1 - i) = x
theorem stk.push {f : Nat} {s : List Int32} {I : pHI} {v : Int32} (h : stk f s I) : stk f (v :: s) (pu (pu I (f + 3) s.length v) f 4 (nI (s.length + 1))) := by
  refine ⟨by rw [pu_at]; simp, fun i x hi => ?_⟩
  rw [pu_at, if_neg (by omega), pu_at]
  cases i with
  | zero =>
    rw [List.getElem?_cons_zero] at hi
    cases hi
    simp
  | succ i =>
    rw [List.getElem?_cons_succ] at hi
    have hl := (List.getElem?_eq_some_iff.mp hi).1
    rw [if_neg (by simp only [List.length_cons]; omega)]
    have := h.2 i x hi
    rw [← this]
    congr 1
    simp only [List.length_cons]
    omega
theorem stk.top {f : Nat} {s : List Int32} {I : pHI} {v : Int32} (h : stk f (v :: s) I) : I (f + 3) s.length = v := by
  have := h.2 0 v rfl
  simpa using this
theorem stk.pop {f : Nat} {s : List Int32} {I : pHI} {v : Int32} (h : stk f (v :: s) I) : stk f s (pu I f 4 (nI s.length)) := by
  refine ⟨by rw [pu_at]; simp, fun i x hi => ?_⟩
  rw [pu_at, if_neg (by omega)]
  have hl := (List.getElem?_eq_some_iff.mp hi).1
  have := h.2 (i + 1) x (by rw [List.getElem?_cons_succ]; exact hi)
  rw [← this]
  congr 1
  simp only [List.length_cons]
  omega
theorem cF.sb {f : Nat} {p : pP} {I I' : pHI} (hf : isF f) (h : cF f p I) (hs : sb I I') : cF f p I' := by
  obtain ⟨h1, h2, h3⟩ := h
  refine ⟨h1, ?_, fun i q hi => ?_⟩
  · rw [hs f 2 (by rcases hf with rfl | rfl | rfl | rfl <;> simp [scF])]
    exact h2
  · rw [hs (f + 1) i (by rcases hf with rfl | rfl | rfl | rfl <;> simp [scF]), hs (f + 2) i (by rcases hf with rfl | rfl | rfl | rfl <;> simp [scF])]
    exact h3 i q hi
/-- a number held between 0 and a most -/
def clp (v : Int32) (m : Nat) : Nat := (min v.toInt m).toNat
theorem clp_le (v : Int32) (m : Nat) : clp v m ≤ m := by unfold clp; omega
theorem clp_neg {v : Int32} {m : Nat} (h : v < 0) : clp v m = 0 := by
  rw [Int32.lt_iff_toInt_lt, Int32.toInt_zero] at h
  unfold clp
  omega
theorem clp_gt {v : Int32} {m : Nat} (hm : m < 2 ^ 31) (h : nI m < v) : clp v m = m := by
  rw [Int32.lt_iff_toInt_lt, nI_toInt hm] at h
  unfold clp
  omega
theorem clp_in {v : Int32} {m : Nat} (hm : m < 2 ^ 31) (h1 : ¬ v < 0) (h2 : ¬ nI m < v) : v = nI (clp v m) := by
  rw [Int32.lt_iff_toInt_lt, Int32.toInt_zero] at h1
  rw [Int32.lt_iff_toInt_lt, nI_toInt hm] at h2
  apply Int32.toInt_inj.mp
  have hc : clp v m < 2 ^ 31 := by have := clp_le v m; omega
  rw [nI_toInt hc]
  unfold clp
  omega
theorem clp_N {a m : Nat} (ha : a < 2 ^ 31) : clp (nI a) m = min a m := by
  unfold clp
  rw [nI_toInt ha]
  omega
/-- max of 0 and min of a most and a number -/
theorem clp_cls (v : Int32) {m : Nat} (hm : m < 2 ^ 31) : (if nI 0 < (if v < nI m then v else nI m) then (if v < nI m then v else nI m) else nI 0) = nI (clp v m) := by
  by_cases h1 : v < 0
  · have h3 : v < nI m := by
      rw [Int32.lt_iff_toInt_lt, Int32.toInt_zero] at h1
      rw [Int32.lt_iff_toInt_lt, nI_toInt hm]
      omega
    rw [if_pos h3, clp_neg h1, if_neg]
    rw [nI_0]
    exact fun h => Int32.lt_irrefl (Int32.lt_trans h h1)
  · by_cases h2 : nI m < v
    · have h3 : ¬ v < nI m := fun h => Int32.lt_irrefl (Int32.lt_trans h h2)
      rw [if_neg h3, clp_gt hm h2]
      have := nI_max 0 m (by omega) hm
      rw [Nat.max_eq_right (Nat.zero_le _)] at this
      exact this
    · have e := clp_in hm h1 h2
      have hc : clp v m < 2 ^ 31 := by have := clp_le v m; omega
      have e2 : (if v < nI m then v else nI m) = nI (clp v m) := by
        by_cases h3 : v < nI m
        · rw [if_pos h3]; exact e
        · rw [if_neg h3]
          have : v = nI m := by
            apply Int32.toInt_inj.mp
            rw [Int32.lt_iff_toInt_lt] at h2 h3
            omega
          rw [← e, this]
      rw [e2]
      have := nI_max 0 (clp v m) (by omega) hc
      rw [Nat.max_eq_right (Nat.zero_le _)] at this
      exact this
/-! the model's formulas -/
def mF (w : Nat) (p : pP) (I : pHI) : Prop := p.length ≤ 300 ∧ I 75 w = nI p.length ∧ ∀ (i k m : Nat), p[i]? = some (k, m) → (k = 0 ∧ I 73 (320 * w + i) = nI 0 ∧ I 74 (320 * w + i) = nI m) ∨ ((1 ≤ k ∧ k ≤ 6) ∧ I 73 (320 * w + i) = nI 1 ∧ I 74 (320 * w + i) = nI (k - 1)) ∨ (k = 7 ∧ I 73 (320 * w + i) = nI 2) ∨ (isSg k ∧ I 73 (320 * w + i) = nI 3 ∧ I 74 (320 * w + i) = nI k)
theorem mF.sb {w : Nat} {p : pP} {I I' : pHI} (h : mF w p I) (hs : sb I I') : mF w p I' := by
  obtain ⟨h1, h2, h3⟩ := h
  refine ⟨h1, ?_, fun i k m hi => ?_⟩
  · rw [hs 75 w (by simp [scF])]
    exact h2
  · rw [hs 73 _ (by simp [scF]), hs 74 _ (by simp [scF])]
    exact h3 i k m hi
def mk (s : List Int32) (I : pHI) : Prop := ∀ (i : Nat) (x : Int32), s[i]? = some x → I 77 (s.length - 1 - i) = x
theorem mk.push {s : List Int32} {I : pHI} {v : Int32} (h : mk s I) : mk (v :: s) (pu I 77 s.length v) := by
  intro i x hi
  rw [pu_at]
  cases i with
  | zero =>
    rw [List.getElem?_cons_zero] at hi
    cases hi
    simp
  | succ i =>
    rw [List.getElem?_cons_succ] at hi
    have hl := (List.getElem?_eq_some_iff.mp hi).1
    rw [if_neg (by simp only [List.length_cons]; omega)]
    rw [← h i x hi]
    congr 1
    simp only [List.length_cons]
    omega
theorem mk.top {s : List Int32} {I : pHI} {v : Int32} (h : mk (v :: s) I) : I 77 s.length = v := by
  have := h 0 v rfl
  simpa using this
theorem mk.tail {s : List Int32} {I : pHI} {v : Int32} (h : mk (v :: s) I) : mk s I := by
  intro i x hi
  have hl := (List.getElem?_eq_some_iff.mp hi).1
  rw [← h (i + 1) x (by rw [List.getElem?_cons_succ]; exact hi)]
  congr 1
  simp only [List.length_cons]
  omega
/-- the value on top anew -/
theorem mk.set {s : List Int32} {I : pHI} {v w : Int32} (h : mk (v :: s) I) : mk (w :: s) (pu I 77 s.length w) := h.tail.push
