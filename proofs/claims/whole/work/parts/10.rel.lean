/-! the numbers of a HOUSE: 0 storeys, 1 tenants, 2 the lift at first, 3 draw, 4 units; from 8 on who lives where, 16 strong, 24 heavy, 32 owes, 40 fails.
of a state: 0 breath, 8 paid, 16 debt, 24 climbed, 25 lift, 26 week, 27 seed -/
abbrev pN : Type := Nat → Nat
def cH (o : Nat) (H : pN) (I : pHI) : Prop := I o 0 = nI (H 0) ∧ I o 1 = nI (H 2) ∧ I o 2 = nI (H 1) ∧ I o 10 = nI (H 3) ∧ I o 11 = nI (H 4) ∧ ∀ j, j < 8 → I (o + 1) j = nI (H (8 + j)) ∧ I (o + 2) j = nI (H (16 + j)) ∧ I (o + 3) j = nI (H (24 + j)) ∧ I (o + 4) j = nI (H (32 + j)) ∧ I (o + 5) j = nI (H (40 + j))
def rH (H : pN) : Prop := (1 ≤ H 0 ∧ H 0 ≤ 20) ∧ H 1 ≤ 8 ∧ H 2 ≤ H 0 ∧ H 3 ≤ 999 ∧ ∀ j, j < 8 → H (8 + j) ≤ H 0 ∧ H (16 + j) ≤ 40 ∧ H (24 + j) ≤ 9 ∧ H (32 + j) ≤ 999 ∧ H (40 + j) ≤ 100
def cS (s : Nat) (T : pN) (I : pHI) : Prop := I s 3 = nI (T 24) ∧ I s 4 = nI (T 25) ∧ I s 5 = nI (T 26) ∧ I s 6 = nI (T 27) ∧ ∀ j, j < 8 → I (s + 1) j = nI (T j) ∧ I (s + 2) j = nI (T (8 + j)) ∧ I (s + 3) j = nI (T (16 + j))
def rS (B : Nat) (H T : pN) : Prop := T 25 ≤ H 0 ∧ T 26 ≤ B ∧ T 27 ≤ 999 ∧ B ≤ 10000 ∧ ∀ j, j < 8 → T j ≤ 40 ∧ T (8 + j) ≤ 9999 ∧ T (16 + j) ≤ 1000 * T 26
def mH (H : pN) (I : pHI) : Prop := I 67 41 = nI (H 0) ∧ I 67 42 = nI (H 1) ∧ I 67 23 = nI (H 4) ∧ ∀ j, j < H 1 → I 85 j = nI (H (8 + j)) ∧ I 86 j = nI (H (16 + j)) ∧ I 87 j = nI (H (24 + j)) ∧ I 88 j = nI (H (32 + j)) ∧ I 89 j = nI (H (40 + j))
def mS (a : Nat) (T : pN) (I : pHI) : Prop := ∀ k, k < 28 → I a k = nI (T k)
def lackN (H T : pN) (j : Nat) : Nat := H (32 + j) + T (16 + j) - T (8 + j)
def surpN (H T : pN) (j : Nat) : Nat := T (8 + j) - H (32 + j) - T (16 + j)
def hvN (H : pN) : Option Nat → Nat
  | none => 0
  | some j => H (24 + j)
def brN (s hv : Nat) : Nat := s * (1 + hv / 3)
