/-! rows of states -/
theorem pz_pz {α : Type} (f : Nat → Nat → α) (c : Nat) (g1 g2 : Nat → α) : pz (pz f c g1) c g2 = pz f c g2 := by
  funext i
  by_cases h : i = c
  · subst h; rw [pz_eq, pz_eq]
  · rw [pz_ne _ _ h, pz_ne _ _ h, pz_ne _ _ h]
theorem cpyN {α : Type} (f g : Nat → α) {a b n : Nat} (ha : a < 2 ^ 31) (hb : b < 2 ^ 31) (hn : n < 2 ^ 31) : va_cpy f g (nI a).toNatClampNeg (nI b).toNatClampNeg (nI n).toNatClampNeg = va_cpy f g a b n := by
  rw [nI_clamp ha, nI_clamp hb, nI_clamp hn]
theorem cpy_in {α : Type} {f g : Nat → α} {a b n k : Nat} (h : b ≤ k ∧ k < b + n) : va_cpy f g a b n k = f (a + (k - b)) := if_pos h
theorem cpy_out {α : Type} {f g : Nat → α} {a b n k : Nat} (h : ¬ (b ≤ k ∧ k < b + n)) : va_cpy f g a b n k = g k := if_neg h
/-- the ring of states: od the oldest's place, d done, u undone; G i the state behind i of them -/
def cK (I : pHI) (od d u : Nat) (G : Nat → pN) : Prop := I 41 1 = nI od ∧ I 41 2 = nI d ∧ I 41 3 = nI u ∧ od < 41 ∧ d + u ≤ 40 ∧ ∀ i, i ≤ d + u → ∀ q, q < 28 → I 42 (28 * ((od + i) % 41) + q) = nI (G i q)
theorem cK.off {I I' : pHI} {od d u : Nat} {G : Nat → pN} (h : cK I od d u G) (n : ∀ c k, c = 41 ∨ c = 42 → I' c k = I c k) : cK I' od d u G := by
  obtain ⟨h1, h2, h3, h4, h5, h6⟩ := h
  exact ⟨by rw [n 41 _ (by omega)]; exact h1, by rw [n 41 _ (by omega)]; exact h2, by rw [n 41 _ (by omega)]; exact h3, h4, h5, fun i hi q hq => by rw [n 42 _ (by omega)]; exact h6 i hi q hq⟩
/-- what a keeper's own cells are not -/
def sk (I I' : pHI) : Prop := ∀ c k, c ≠ 41 → c ≠ 42 → I' c k = I c k
