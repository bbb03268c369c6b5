def mR (I : pHI) (n : Nat) (C : Nat → Nat → Bool) (pr : Nat → Nat) (a : Nat) : Prop := ∀ i, i < a → I 97 i = nI (pr i) ∧ ∀ b, b < n → I 98 (8 * i + b) = nI (C i b).toNat
def mRj (I : pHI) (n : Nat) (C : Nat → Nat → Bool) (pr : Nat → Nat) (a j : Nat) : Prop := mR I n C pr a ∧ I 97 a = nI (pr a) ∧ ∀ b, b < j → I 98 (8 * a + b) = nI (C a b).toNat
theorem mRj.put {I : pHI} {n a j : Nat} {C : Nat → Nat → Bool} {pr : Nat → Nat} {x : Int32} (h : mRj I n C pr a j) (h8 : n ≤ 8) (hj : j < n) (e : x = nI (C a j).toNat) : mRj (pu I 98 (8 * a + j) x) n C pr a (j + 1) := by
  obtain ⟨h1, h2, h3⟩ := h
  refine ⟨fun i hi => ⟨by rw [pu_ne _ _ _ (by decide)]; exact (h1 i hi).1, fun b hb => ?_⟩, by rw [pu_ne _ _ _ (by decide)]; exact h2, fun b hb => ?_⟩
  · rw [pu_at, if_neg (by omega)]; exact (h1 i hi).2 b hb
  · rw [pu_at]
    by_cases c : b = j
    · subst c; rw [if_pos ⟨rfl, rfl⟩]; exact e
    · rw [if_neg (by omega)]; exact h3 b (by omega)
theorem mR.start {I : pHI} {n a : Nat} {C : Nat → Nat → Bool} {pr : Nat → Nat} {x : Int32} (h : mR I n C pr a) (e : x = nI (pr a)) : mRj (pu I 97 a x) n C pr a 0 := by
  refine ⟨fun i hi => ⟨by rw [pu_at, if_neg (by omega)]; exact (h i hi).1, fun b hb => by rw [pu_ne _ _ _ (by decide)]; exact (h i hi).2 b hb⟩, by rw [pu_at, if_pos ⟨rfl, rfl⟩]; exact e, fun b hb => by omega⟩
theorem mRj.done {I : pHI} {n a : Nat} {C : Nat → Nat → Bool} {pr : Nat → Nat} (h : mRj I n C pr a n) : mR I n C pr (a + 1) := fun i hi => by
  by_cases c : i = a
  · subst c; exact h.2
  · exact h.1 i (by omega)
theorem mR.all {I : pHI} {n : Nat} {C : Nat → Nat → Bool} {pr : Nat → Nat} (h : mR I n C pr n) : mC I n C pr := h
theorem mR.sb {I I' : pHI} {n a : Nat} {C : Nat → Nat → Bool} {pr : Nat → Nat} (h : mR I n C pr a) (f : sb I I') : mR I' n C pr a := fun i hi => ⟨by rw [f 97 _ (by simp [scF])]; exact (h i hi).1, fun b hb => by rw [f 98 _ (by simp [scF])]; exact (h i hi).2 b hb⟩
theorem mSne {a c k : Nat} {T : pN} {I : pHI} {x : Int32} (h : mS a T I) (hc : a ≠ c) : mS a T (pu I c k x) := fun q hq => by rw [pu_ne _ _ _ hc]; exact h q hq
theorem mF.sz {w : Nat} {p : pP} {I I' : pHI} (h : mF w p I) (hs : sz I I') : mF w p I' := by
  obtain ⟨h1, h2, h3⟩ := h
  refine ⟨h1, ?_, fun i k m hi => ?_⟩
  · rw [hs 75 w (by simp [scF]) (by simp [scM])]
    exact h2
  · rw [hs 73 _ (by simp [scF]) (by simp [scM]), hs 74 _ (by simp [scF]) (by simp [scM])]
    exact h3 i k m hi
theorem szp97 {I I1 : pHI} {k : Nat} {x : Int32} (h : sz I I1) : sz I (pu I1 97 k x) := h.pu (by simp [scM])
theorem szp98 {I I1 : pHI} {k : Nat} {x : Int32} (h : sz I I1) : sz I (pu I1 98 k x) := h.pu (by simp [scM])
/-- what laying there may write too -/
def sY (I I' : pHI) : Prop := ∀ c k, ¬ scF c k → ¬ scM c → c ≠ 94 → ¬ (c = 67 ∧ k = 52) → I' c k = I c k
theorem cC_no {H T : pN} {a b : Nat} (h8 : H 1 ≤ 8) (hb : b < H 1) (h : ¬ (0 < H (8 + a) ∧ b ≠ a ∧ brN (H (8 + a)) (H (24 + a)) ≤ T b)) : nI 0 = nI (canS (svC H T) a b).toNat := by
  rw [can_C h8 hb, decide_eq_false h]
  rfl
theorem cC_yes {H T : pN} {a b : Nat} (h8 : H 1 ≤ 8) (hb : b < H 1) (h : 0 < H (8 + a) ∧ b ≠ a ∧ brN (H (8 + a)) (H (24 + a)) ≤ T b) : nI 1 = nI (canS (svC H T) a b).toNat := by
  rw [can_C h8 hb, decide_eq_true h]
  rfl
theorem b_no {b : Bool} (h : ¬ b = true) : nI 0 = nI b.toNat := by cases b <;> simp_all
theorem b_yes {b : Bool} (h : b = true) : nI 1 = nI b.toNat := by subst h; rfl
