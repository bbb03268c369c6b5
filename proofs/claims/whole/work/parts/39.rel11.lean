/-! bits -/
def bitN (k j : Nat) : Nat := k / 2 ^ j % 2
def popN (k : Nat) : Nat → Nat
  | 0 => 0
  | n + 1 => popN k n + bitN k n
theorem bitN_le (k j : Nat) : bitN k j ≤ 1 := by unfold bitN; omega
theorem popN_le (k : Nat) : ∀ n, popN k n ≤ n
  | 0 => Nat.le_refl _
  | n + 1 => by
    have := popN_le k n
    have := bitN_le k n
    simp only [popN]
    omega
theorem sh_bit {k j : Nat} (hk : k < 256) (hj : j < 8) : (nI k >>> (nI j &&& 31)) &&& nI 1 = nI (bitN k j) := by
  have : ∀ k, k < 256 → ∀ j, j < 8 → (nI k >>> (nI j &&& 31)) &&& nI 1 = nI (bitN k j) := by decide +kernel
  exact this k hk j hj
theorem one_shl {n : Nat} (hn : n ≤ 8) : nI 1 <<< (nI n &&& 31) = nI (2 ^ n) := by
  have : ∀ n, n ≤ 8 → nI 1 <<< (nI n &&& 31) = nI (2 ^ n) := by decide +kernel
  exact this n hn
theorem p2_le {n : Nat} (hn : n ≤ 8) : 2 ^ n ≤ 256 := by
  have : ∀ n, n ≤ 8 → 2 ^ n ≤ 256 := by decide
  exact this n hn
/-- a set with one more -/
def addB (k j : Nat) : Nat := if bitN k j = 1 then k else k + 2 ^ j
theorem or_bit {k j : Nat} (hk : k < 256) (hj : j < 8) : nI k ||| (nI 1 <<< (nI j &&& 31)) = nI (addB k j) := by
  have : ∀ k, k < 256 → ∀ j, j < 8 → nI k ||| (nI 1 <<< (nI j &&& 31)) = nI (addB k j) := by decide +kernel
  exact this k hk j hj
theorem oI_none {o : Option Nat} (hb : ∀ b, o = some b → b < 2 ^ 31) (h : oI o = -1) : o = none := by
  cases o with
  | none => rfl
  | some b => exact absurd h (nI_m1n (hb b rfl))
theorem oI_some {o : Option Nat} (h : ¬ oI o = -1) : ∃ b, o = some b := by
  cases o with
  | none => exact absurd rfl h
  | some b => exact ⟨b, rfl⟩
/-! the fewest together -/
def sumB (T : Nat → Nat) (k : Nat) : Nat → Nat
  | 0 => 0
  | n + 1 => sumB T k n + (if bitN k n = 1 then T n else 0)
theorem sumB_le {T : Nat → Nat} {B : Nat} (k : Nat) : ∀ n, (∀ j, j < n → T j ≤ B) → sumB T k n ≤ B * n
  | 0, _ => by simp [sumB]
  | n + 1, h => by
    have h1 := sumB_le k n (fun j hj => h j (by omega))
    have h2 := h n (by omega)
    simp only [sumB, Nat.mul_succ]
    split <;> omega
def tmN (f : Nat → Nat) (s : Nat) : Nat → Option Nat
  | 0 => none
  | n + 1 => match tmN f s n with
    | none => if s ≤ f n then some n else none
    | some b => if s ≤ f n ∧ popN n 8 < popN b 8 then some n else some b
def twF : Option Nat → Nat
  | none => 9
  | some b => popN b 8
def tmA (o : Option Nat) (w : Nat) : Int32 := match o with
  | none => -1
  | some b => if w = 0 then nI (popN b 8) else nI b
theorem tmN_lt {f : Nat → Nat} {s : Nat} : ∀ {n b : Nat}, tmN f s n = some b → b < n
  | 0, b, h => by simp [tmN] at h
  | n + 1, b, h => by
    simp only [tmN] at h
    split at h
    · split at h <;> simp at h
      omega
    · rename_i k e
      have := tmN_lt e
      split at h <;> (cases h; omega)
theorem twF_le (o : Option Nat) : twF o ≤ 9 := by
  cases o with
  | none => exact Nat.le_refl _
  | some b => exact Nat.le_trans (popN_le b 8) (by omega)
theorem tm_yes {f : Nat → Nat} {s n : Nat} (h1 : s ≤ f n) (h2 : popN n 8 < twF (tmN f s n)) : tmN f s (n + 1) = some n := by
  cases e : tmN f s n with
  | none => simp only [tmN, e]; rw [if_pos h1]
  | some b => rw [e] at h2; simp only [tmN, e]; rw [if_pos ⟨h1, h2⟩]
theorem tm_no1 {f : Nat → Nat} {s n : Nat} (h1 : ¬ s ≤ f n) : tmN f s (n + 1) = tmN f s n := by
  cases e : tmN f s n with
  | none => simp only [tmN, e]; rw [if_neg h1]
  | some b => simp only [tmN, e]; rw [if_neg (fun h => h1 h.1)]
theorem tm_no2 {f : Nat → Nat} {s n : Nat} (h2 : ¬ popN n 8 < twF (tmN f s n)) : tmN f s (n + 1) = tmN f s n := by
  cases e : tmN f s n with
  | none => rw [e] at h2; exact absurd (Nat.lt_of_le_of_lt (popN_le n 8) (by decide)) h2
  | some b => rw [e] at h2; simp only [tmN, e]; rw [if_neg (fun h => h2 h.2)]
/-! odds -/
def wayN (n : Nat) : Nat → Nat
  | 0 => 1
  | i + 1 => wayN n i * (n - i) / (i + 1)
theorem wayN_le {n i : Nat} (hn : n ≤ 4) (hi : i ≤ 4) : wayN n i ≤ 24 := by
  have : ∀ n, n ≤ 4 → ∀ i, i ≤ 4 → wayN n i ≤ 24 := by decide +kernel
  exact this n hn i hi
def odT (f n k : Nat) : Nat := wayN n k * (100 - f) ^ k * f ^ (n - k)
def odS (f n m : Nat) : Nat → Nat
  | 0 => 0
  | i + 1 => odS f n m i + odT f n (m + i)
def odM (f n m : Nat) : Nat → Nat
  | 0 => 0
  | s + 1 => odM f n m s + (if m ≤ popN s 8 then (100 - f) ^ popN s 8 * f ^ (n - popN s 8) else 0)
theorem od_eq {f n m : Nat} (hf : f ≤ 100) (hn : n ≤ 4) (hm : m ≤ n) : odM f n m (2 ^ n) = odS f n m (n + 1 - m) ∧ odS f n m (n + 1 - m) ≤ 100000000 := by
  have : ∀ n, n ≤ 4 → ∀ m, m ≤ n → ∀ f, f ≤ 100 → odM f n m (2 ^ n) = odS f n m (n + 1 - m) ∧ odS f n m (n + 1 - m) ≤ 100000000 := by decide +kernel
  exact this n hn m hm f hf
theorem gcd_st (x y : Nat) : Nat.gcd x y = Nat.gcd y (x % y) := by rw [Nat.gcd_comm x y, Nat.gcd_rec y x, Nat.gcd_comm]
theorem half_st {x y s : Nat} (h : y < x) (hy : 0 < y) (hs : s < 100) (hb : x * y < 2 ^ (100 - s)) : y * (x % y) < 2 ^ (100 - (s + 1)) := by
  have h1 : x % y + x % y < x := by
    have := Nat.mod_lt x hy
    have h2 := Nat.div_add_mod x y
    have h3 : 1 ≤ x / y := Nat.div_pos (Nat.le_of_lt h) hy
    have h4 : y * 1 ≤ y * (x / y) := Nat.mul_le_mul_left y h3
    omega
  have e : 2 ^ (100 - s) = 2 * 2 ^ (100 - (s + 1)) := by
    rw [show 100 - s = (100 - (s + 1)) + 1 by omega, Nat.pow_succ, Nat.mul_comm]
  rw [e] at hb
  have h5 : y * (x % y) + y * (x % y) = y * (x % y + x % y) := (Nat.mul_add _ _ _).symm
  have h6 : y * (x % y + x % y) ≤ y * x := Nat.mul_le_mul_left y (Nat.le_of_lt h1)
  rw [Nat.mul_comm x y] at hb
  omega
