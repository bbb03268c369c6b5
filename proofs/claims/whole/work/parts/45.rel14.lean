/-! CALM -/
def clI (E : Nat → Nat → Nat) (a : Nat) : Nat → Nat × Option (Nat × Nat) → Nat × Option (Nat × Nat)
  | 0, s => s
  | k + 1, s => if E a (a + 1 + k) < (clI E a k s).1 then (E a (a + 1 + k), some (a, a + 1 + k)) else clI E a k s
def clO (E : Nat → Nat → Nat) (n e0 : Nat) : Nat → Nat × Option (Nat × Nat)
  | 0 => (e0, none)
  | a + 1 => clI E a (n - (a + 1)) (clO E n e0 a)
theorem clI_y {E : Nat → Nat → Nat} {a k : Nat} {s : Nat × Option (Nat × Nat)} (h : E a (a + 1 + k) < (clI E a k s).1) : clI E a (k + 1) s = (E a (a + 1 + k), some (a, a + 1 + k)) := by simp only [clI]; rw [if_pos h]
theorem clI_n {E : Nat → Nat → Nat} {a k : Nat} {s : Nat × Option (Nat × Nat)} (h : ¬ E a (a + 1 + k) < (clI E a k s).1) : clI E a (k + 1) s = clI E a k s := by simp only [clI]; rw [if_neg h]
def clG (n : Nat) (s : Nat × Option (Nat × Nat)) : Prop := s.1 ≤ 64 ∧ ∀ q, s.2 = some q → q.1 < n ∧ q.2 < n
theorem clI_ok {E : Nat → Nat → Nat} {n a : Nat} {s : Nat × Option (Nat × Nat)} (hs : clG n s) : ∀ k, a + 1 + k ≤ n → clG n (clI E a k s)
  | 0, _ => hs
  | k + 1, hk => by
    have ih := clI_ok (E := E) (a := a) hs k (by omega)
    simp only [clI]
    split
    · rename_i c
      refine ⟨Nat.le_trans (Nat.le_of_lt c) ih.1, fun q hq => ?_⟩
      simp only [Option.some.injEq] at hq
      subst hq
      exact ⟨by simp only; omega, by simp only; omega⟩
    · exact ih
theorem clO_ok {E : Nat → Nat → Nat} {n e0 : Nat} (he : e0 ≤ 64) : ∀ a, a ≤ n → clG n (clO E n e0 a)
  | 0, _ => ⟨he, fun q hq => by simp [clO] at hq⟩
  | a + 1, ha => clI_ok (clO_ok he a (by omega)) _ (by omega)
def cf1 : Option (Nat × Nat) → Int32
  | none => -1
  | some q => nI q.1
def cf2 : Option (Nat × Nat) → Int32
  | none => -1
  | some q => nI q.2
def cf3 : Option (Nat × Nat) → Int32
  | none => -1
  | some q => nI (8 * q.1 + q.2)
def calA (s : Nat × Option (Nat × Nat)) (w : Nat) : Int32 := match s.2 with
  | none => -1
  | some q => if w = 0 then nI q.1 else if w = 1 then nI q.2 else nI s.1
/-- the ENVIES behind an exchange -/
def envE (H : pN) (a b : Nat) : Nat := allE H (swH (fun k => H (8 + k)) a b) (H 1)
def calN (H : pN) : Nat × Option (Nat × Nat) := clO (envE H) (H 1) (allE H (fun k => H (8 + k)) (H 1)) (H 1)
theorem sw_le {h : Nat → Nat} {a b n B : Nat} (hh : ∀ j, j < n → h j ≤ B) (ha : a < n) (hb : b < n) : ∀ j, j < n → swH h a b j ≤ B := by
  intro j hj
  unfold swH
  split
  · exact hh b hb
  · split
    · exact hh a ha
    · exact hh j hj
theorem sw_sw (h : Nat → Nat) (a b j : Nat) : swH (swH h a b) a b j = h j := by
  unfold swH
  split
  · rename_i e
    subst e
    split
    · rename_i e2; rw [e2]
    · simp
  · split
    · rename_i e; subst e; simp
    · rfl
theorem envE_le {H : pN} (h8 : H 1 ≤ 8) (a b : Nat) : envE H a b ≤ 64 := allE_le H _ h8 (H 1) h8
