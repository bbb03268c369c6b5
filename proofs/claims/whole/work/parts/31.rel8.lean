/-! rows of states -/
theorem pz_pz {α : Type} (f : Nat → Nat → α) (c : Nat) (g1 g2 : Nat → α) : pz (pz f c g1) c g2 = pz f c g2 := by
  funext i
  by_cases h : i = c
  · subst h; rw [pz_eq, pz_eq]
  · rw [pz_ne _ _ h, pz_ne _ _ h, pz_ne _ _ h]
theorem cpyN {α : Type} (f g : Nat → α) {a b n : Nat} (ha : a < 2 ^ 31) (hb : b < 2 ^ 31) (hn : n < 2 ^ 31) : va_cpy f g (nI a).toNatClampNeg (nI b).toNatClampNeg (nI n).toNatClampNeg = va_cpy f g a b n := by
  rw [nI_clamp ha, nI_clamp hb, nI_clamp hn]
theorem cpy_in {α : Type} {f g : Nat → α} {a b n k : Nat} (h : b ≤ k ∧ k < b + n) : va_cpy f g a b n k = f (a + (k - b)) := if_pos h
theorem cpy_out {α : Type} {f g : Nat → α} {a b n k : Nat} (h : ¬ (b ≤ k ∧ k < b + n)) : va_cpy f g a b n k = g k := if_neg h
