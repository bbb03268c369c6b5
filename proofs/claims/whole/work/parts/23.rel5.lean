/-! small answers, as numbers -/
def setI (P : Nat → Bool) : Nat → Int32
  | 0 => nI 0
  | n + 1 => if P n = true then setI P n ||| (nI 1 <<< (nI n &&& 31)) else setI P n
theorem or_sh0 (a : Int32) {j : Nat} (hj : j < 32) : a ||| (nI 0 <<< (nI j &&& 31)) = a := by
  have h : nI 0 <<< (nI j &&& 31) = 0 := by
    have : ∀ i, i < 32 → nI 0 <<< (nI i &&& 31) = 0 := by decide +kernel
    exact this j hj
  rw [h, Int32.or_zero]
/-- the first of the greatest: how much, and who -/
def topN (f : Nat → Nat) : Nat → Nat × Option Nat
  | 0 => (0, none)
  | n + 1 => match (topN f n).2 with
    | none => (f n, some n)
    | some i => if (topN f n).1 < f n then (f n, some n) else ((topN f n).1, some i)
def oI : Option Nat → Int32
  | none => -1
  | some j => nI j
def cntP (P : Nat → Bool) : Nat → Nat
  | 0 => 0
  | n + 1 => cntP P n + (if P n = true then 1 else 0)
theorem cntP_le (P : Nat → Bool) : ∀ n, cntP P n ≤ n
  | 0 => Nat.le_refl _
  | n + 1 => by
    have := cntP_le P n
    simp only [cntP]
    split <;> omega
def minN (f : Nat → Nat) (B : Nat) : Nat → Nat
  | 0 => B
  | n + 1 => min (minN f B n) (f n)
def maxN (f : Nat → Nat) : Nat → Nat
  | 0 => 0
  | n + 1 => max (maxN f n) (f n)
theorem minN_le (f : Nat → Nat) (B : Nat) : ∀ n, minN f B n ≤ B
  | 0 => Nat.le_refl _
  | n + 1 => Nat.le_trans (Nat.min_le_left _ _) (minN_le f B n)
theorem maxN_le {f : Nat → Nat} {B : Nat} : ∀ n, (∀ j, j < n → f j ≤ B) → maxN f n ≤ B
  | 0, _ => Nat.zero_le _
  | n + 1, h => Nat.max_le.mpr ⟨maxN_le n (fun j hj => h j (by omega)), h n (by omega)⟩
theorem minN_eq {f : Nat → Nat} {B C : Nat} : ∀ n, (∀ j, j < n → f j ≤ B ∧ f j ≤ C) → 0 < n → minN f B n = minN f C n
  | 1, h, _ => by
    have := h 0 (by omega)
    simp only [minN]
    omega
  | n + 2, h, _ => by
    have := minN_eq (n + 1) (fun j hj => h j (by omega)) (by omega)
    simp only [minN] at this ⊢
    rw [this]
theorem minmax {f : Nat → Nat} {B : Nat} : ∀ n, (∀ j, j < n → f j ≤ B) → 0 < n → minN f B n ≤ maxN f n
  | 1, h, _ => by
    have := h 0 (by omega)
    simp only [minN, maxN]
    omega
  | n + 2, h, _ => by
    have := minmax (n + 1) (fun j hj => h j (by omega)) (by omega)
    simp only [minN, maxN] at this ⊢
    omega
/-- the model's rows of scratch -/
def scM (c : Nat) : Prop := c = 91 ∨ c = 93 ∨ (95 ≤ c ∧ c ≤ 100) ∨ c = 106
def sz (I I' : pHI) : Prop := ∀ c k, ¬ scF c k → ¬ scM c → I' c k = I c k
theorem sz.rf {I : pHI} : sz I I := fun _ _ _ _ => rfl
theorem sz.tr {I I1 I2 : pHI} (h1 : sz I I1) (h2 : sz I1 I2) : sz I I2 := fun c k a b => (h2 c k a b).trans (h1 c k a b)
theorem sm.sz {I I' : pHI} (h : sm I I') : sz I I' := fun c k a b => h c k a (fun e => b (Or.inl e))
theorem sz.pu {c k : Nat} {I I1 : pHI} {x : Int32} (h : sz I I1) (hc : scM c) : sz I (pu I1 c k x) := by
  intro c' k' a b
  rw [pu_ne _ _ _ (fun e => b (by rw [e]; exact hc))]
  exact h c' k' a b
theorem mH.sz {H : pN} {I I' : pHI} (h : mH H I) (hb : sz I I') : mH H I' := h.off (fun c k a => hb c k (by simp only [scF]; omega) (by simp only [scM]; omega))
