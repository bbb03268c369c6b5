-- needs: 33.rel9
/-! the first of the greatest -/
def mI (p : Nat × Option Nat) : Int32 := match p.2 with
  | none => -1
  | some _ => nI p.1
theorem topN_some {f : Nat → Nat} : ∀ {n i : Nat}, (topN f n).2 = some i → i < n ∧ (topN f n).1 = f i
  | 0, i, h => by simp [topN] at h
  | n + 1, i, h => by
    cases e : (topN f n).2 with
    | none =>
      simp only [topN, e] at h ⊢
      cases h
      exact ⟨by omega, rfl⟩
    | some k =>
      have ih := topN_some e
      simp only [topN, e] at h ⊢
      split at h <;> rename_i c
      · simp only at h; cases h; simp [c]
      · simp only at h; cases h; simp [c]; exact ⟨by omega, ih.2⟩
theorem topN_none {f : Nat → Nat} : ∀ {n : Nat}, (topN f n).2 = none → n = 0
  | 0, _ => rfl
  | n + 1, h => by
    simp only [topN] at h
    split at h
    · simp at h
    · split at h <;> simp at h
theorem topN_s0 {f : Nat → Nat} {n : Nat} (h : (topN f n).2 = none) : topN f (n + 1) = (f n, some n) := by simp only [topN, h]
theorem topN_s1 {f : Nat → Nat} {n i : Nat} (h : (topN f n).2 = some i) (c : (topN f n).1 < f n) : topN f (n + 1) = (f n, some n) := by simp only [topN, h, if_pos c]
theorem topN_s2 {f : Nat → Nat} {n i : Nat} (h : (topN f n).2 = some i) (c : ¬ (topN f n).1 < f n) : topN f (n + 1) = ((topN f n).1, some i) := by simp only [topN, h, if_neg c]
theorem topN_eta (f : Nat → Nat) (n : Nat) : topN f n = ((topN f n).1, (topN f n).2) := rfl
theorem nle_m1 {a : Nat} (ha : a < 2 ^ 31) (h : nI a ≤ -1) : False := by
  rw [Int32.le_iff_toInt_le, nI_toInt ha] at h
  have h3 : (-1 : Int32).toInt = -1 := by decide +kernel
  omega
theorem nlt_0 {a : Nat} (ha : a < 2 ^ 31) (h : nI a < 0) : False := by
  rw [Int32.lt_iff_toInt_lt, nI_toInt ha, Int32.toInt_zero] at h
  omega
theorem m1_lt0 : (-1 : Int32) < 0 := by decide +kernel
theorem lack_le {H T : pN} {j : Nat} (hr : rH H) (hrT : rS 999 H T) (hj : j < 8) : lackN H T j ≤ 1000000 := by
  have b1 := (hr.2.2.2.2 j hj).2.2.2.1
  have b2 := (hrT.2.2.2.2 j hj).2.2
  have b3 := hrT.2.1
  have : T (16 + j) ≤ 999000 := by have := Nat.mul_le_mul_left 1000 b3; omega
  unfold lackN
  omega
/-! law -/
def lawN (H : pN) (d : Int) (j : Nat) : Nat := (max 0 ((H (32 + j) : Int) + d)).toNat
theorem law_add {h : Nat} {x : Int32} (hh : h ≤ 999) (h1 : -999 ≤ x.toInt) (h2 : x.toInt ≤ 999) : (nI h + x).toInt = (h : Int) + x.toInt := by
  rw [Int32.toInt_add, nI_toInt (by omega), Int.bmod_def]
  omega
theorem law_max {H : pN} {j : Nat} {x : Int32} (hh : H (32 + j) ≤ 999) (h1 : -999 ≤ x.toInt) (h2 : x.toInt ≤ 999) : (if nI 0 < nI (H (32 + j)) + x then nI (H (32 + j)) + x else nI 0) = nI (lawN H x.toInt j) := by
  have ha := law_add hh h1 h2
  by_cases c : nI 0 < nI (H (32 + j)) + x
  · rw [if_pos c]
    rw [Int32.lt_iff_toInt_lt, nI_toInt (by omega), ha] at c
    apply Int32.toInt_inj.mp
    unfold lawN
    rw [ha, nI_toInt (by omega)]
    omega
  · rw [if_neg c]
    rw [Int32.lt_iff_toInt_lt, nI_toInt (by omega), ha] at c
    congr 1
    unfold lawN
    omega
theorem lawN_pos {H : pN} {j : Nat} {x : Int32} (hh : H (32 + j) ≤ 999) (h1 : -999 ≤ x.toInt) (h2 : x.toInt ≤ 999) (c : ¬ nI (H (32 + j)) + x ≤ 0) : nI (H (32 + j)) + x = nI (lawN H x.toInt j) := by
  have := law_max hh h1 h2
  rw [if_pos] at this
  · exact this
  · rw [Int32.lt_iff_toInt_lt, nI_0, Int32.toInt_zero]
    rw [Int32.le_iff_toInt_le, Int32.toInt_zero] at c
    omega
theorem lawN_zero {H : pN} {j : Nat} {x : Int32} (hh : H (32 + j) ≤ 999) (h1 : -999 ≤ x.toInt) (h2 : x.toInt ≤ 999) (c : nI (H (32 + j)) + x ≤ 0) : nI 0 = nI (lawN H x.toInt j) := by
  have := law_max hh h1 h2
  rw [if_neg] at this
  · exact this
  · rw [Int32.lt_iff_toInt_lt, nI_0, Int32.toInt_zero]
    rw [Int32.le_iff_toInt_le, Int32.toInt_zero] at c
    omega
theorem lawN_le {H : pN} {j : Nat} {d : Int} (hh : H (32 + j) ≤ 999) (h2 : d ≤ 999) : lawN H d j ≤ 1998 := by unfold lawN; omega
theorem lawB_eq (H T : pN) (d : Int) (j : Nat) : lawB H T d j = decide (T (8 + j) < lawN H d j + T (16 + j)) := by
  unfold lawB lawN
  congr 1
  apply propext
  omega
theorem m999 : (-999 : Int32).toInt = -999 := by decide +kernel
/-! who can carry whom how far -/
def carN (H T : pN) (a b : Nat) : Nat → Nat
  | 0 => 0
  | n + 1 => if brN (n + 1) (H (24 + b)) ≤ T a then n + 1 else carN H T a b n
theorem carN_le (H T : pN) (a b : Nat) : ∀ n, carN H T a b n ≤ n
  | 0 => Nat.le_refl _
  | n + 1 => by
    have := carN_le H T a b n
    simp only [carN]
    split <;> omega
/-- what lies there -/
def cL (c1 k1 c2 : Nat) (I : pHI) (n : Nat) (L : Nat → Int32) : Prop := I c1 k1 = nI n ∧ n ≤ 8 ∧ ∀ i, i < n → I c2 i = L i
theorem nI_big {a b : Nat} (ha : a < 2 ^ 31) (hb : b < 2 ^ 31) (h : ¬ nI a ≤ nI b) : nI b < nI a := by
  rw [Int32.le_iff_toInt_le] at h
  rw [Int32.lt_iff_toInt_lt]
  omega
/-! strides -/
def strN (f : Nat → Nat) : Nat → Option Nat
  | 0 => none
  | n + 1 => match strN f n with
    | none => some (n + 1)
    | some b => if f b * (n + 1) < f (n + 1) * b then some (n + 1) else some b
theorem strN_some {f : Nat → Nat} : ∀ {n b : Nat}, strN f n = some b → 1 ≤ b ∧ b ≤ n
  | 0, b, h => by simp [strN] at h
  | n + 1, b, h => by
    simp only [strN] at h
    split at h
    · cases h; omega
    · rename_i k e
      have := strN_some e
      split at h <;> (cases h; omega)
theorem strN_none {f : Nat → Nat} : ∀ {n : Nat}, strN f n = none → n = 0
  | 0, _ => rfl
  | n + 1, h => by
    simp only [strN] at h
    split at h
    · simp at h
    · split at h <;> simp at h
def sfI (f : Nat → Nat) : Option Nat → Int32
  | none => nI 0
  | some b => nI (f b)
theorem brN_0 (s : Nat) : brN s 0 = s := by simp [brN]
