/-! ENVIES -/
def envB (H h : Nat → Nat) (a b : Nat) : Bool := decide (h b ≤ h a ∧ H (32 + b) < H (32 + a))
def allE (H h : Nat → Nat) (m : Nat) : Nat := sumN (fun a => cntP (envB H h a) (H 1)) m
def swH (h : Nat → Nat) (a b : Nat) : Nat → Nat := fun i => if i = a then h b else if i = b then h a else h i
theorem nI_m1n {j : Nat} (hj : j < 2 ^ 31) : ¬ nI j = -1 := by
  intro h
  have h2 := congrArg Int32.toInt h
  rw [nI_toInt hj] at h2
  have h3 : (-1 : Int32).toInt = -1 := by decide +kernel
  omega
theorem allE_le (H h : Nat → Nat) (hn : H 1 ≤ 8) (m : Nat) (hm : m ≤ 8) : allE H h m ≤ 64 := by
  have h1 : ∀ j, j < m → cntP (envB H h j) (H 1) ≤ 8 := fun j _ => Nat.le_trans (cntP_le _ _) hn
  have := sumN_le (f := fun a => cntP (envB H h a) (H 1)) (B := 8) m h1
  unfold allE
  omega
theorem in_m1 {x : Int32} {n : Nat} (hn : n < 2 ^ 31) (h1 : ¬ x < nI 0) (h2 : ¬ nI n - nI 1 < x) : ∃ j, x = nI j ∧ 0 ≤ j ∧ j < n := by
  rw [Int32.lt_iff_toInt_lt, nI_toInt (by omega)] at h1
  rw [Int32.lt_iff_toInt_lt, Int32.toInt_sub, nI_toInt (by omega), nI_toInt (by omega), Int.bmod_def] at h2
  obtain ⟨j, hj, e⟩ := nI_of (x := x) (by rw [Int32.lt_iff_toInt_lt, Int32.toInt_zero]; omega)
  refine ⟨j, e, ?_⟩
  rw [e, nI_toInt hj] at h1 h2
  omega
theorem out_m1 {x : Int32} {n : Nat} (hn : n < 2 ^ 31) (h : x < nI 0 ∨ nI n - nI 1 < x) : ∀ j, j < n → x ≠ nI j := by
  intro j hj e
  subst e
  rw [Int32.lt_iff_toInt_lt, Int32.lt_iff_toInt_lt, Int32.toInt_sub, nI_toInt (by omega), nI_toInt (by omega), nI_toInt (by omega), nI_toInt (by omega), Int.bmod_def] at h
  omega
theorem sw_out {x : Int32} {n : Nat} (hn : n < 2 ^ 31) (h : ∀ k, k ≤ n → x ≠ nI k) : x.toInt < 0 ∨ (n : Int) < x.toInt := by
  by_cases h1 : x < 0
  · rw [Int32.lt_iff_toInt_lt, Int32.toInt_zero] at h1
    exact Or.inl h1
  · obtain ⟨j, hj, e⟩ := nI_of h1
    rcases Nat.lt_or_ge n j with q | q
    · right
      rw [e, nI_toInt hj]
      omega
    · exact absurd e (h j q)
