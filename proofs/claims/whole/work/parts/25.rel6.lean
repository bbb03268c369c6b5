/-! ENVIES -/
def envB (H h : Nat → Nat) (a b : Nat) : Bool := decide (h b ≤ h a ∧ H (32 + b) < H (32 + a))
def allE (H h : Nat → Nat) (m : Nat) : Nat := sumN (fun a => cntP (envB H h a) (H 1)) m
def swH (h : Nat → Nat) (a b : Nat) : Nat → Nat := fun i => if i = a then h b else if i = b then h a else h i
theorem nI_m1n {j : Nat} (hj : j < 2 ^ 31) : ¬ nI j = -1 := by
  intro h
  have h2 := congrArg Int32.toInt h
  rw [nI_toInt hj] at h2
  have h3 : (-1 : Int32).toInt = -1 := by decide +kernel
  omega
theorem allE_le (H h : Nat → Nat) (hn : H 1 ≤ 8) (m : Nat) (hm : m ≤ 8) : allE H h m ≤ 64 := by
  have h1 : ∀ j, j < m → cntP (envB H h j) (H 1) ≤ 8 := fun j _ => Nat.le_trans (cntP_le _ _) hn
  have := sumN_le (f := fun a => cntP (envB H h a) (H 1)) (B := 8) m h1
  unfold allE
  omega
