/-! climbing till all is paid, week by week -/
theorem walkN_at (T : pN) (j s hv c : Nat) (hj : j < 8) : walkN T j s hv c j = T j - brN s hv := by
  simp only [walkN, up1]
  rw [if_neg (by omega), if_pos trivial]
theorem rS_walk {B : Nat} {H T : pN} {j s hv c : Nat} (h : rS B H T) (hj : j < 8) : rS B H (walkN T j s hv c) := by
  obtain ⟨h1, h2, h3, h4, h5⟩ := h
  refine ⟨?_, ?_, ?_, h4, fun i hi => ?_⟩
  · simp only [walkN, up1]; rw [if_neg (by omega), if_neg (by omega), if_neg (by omega)]; exact h1
  · simp only [walkN, up1]; rw [if_neg (by omega), if_neg (by omega), if_neg (by omega)]; exact h2
  · simp only [walkN, up1]; rw [if_neg (by omega), if_neg (by omega), if_neg (by omega)]; exact h3
  · obtain ⟨a1, a2, a3⟩ := h5 i hi
    have e26 : walkN T j s hv c 26 = T 26 := by simp only [walkN, up1]; rw [if_neg (by omega), if_neg (by omega), if_neg (by omega)]
    rw [e26]
    refine ⟨?_, ?_, ?_⟩
    · simp only [walkN, up1]
      rw [if_neg (by omega)]
      split
      · rename_i e; subst e; omega
      · rw [if_neg (by omega)]; exact a1
    · simp only [walkN, up1]
      rw [if_neg (by omega), if_neg (by omega)]
      split
      · exact Nat.min_le_left _ _
      · exact a2
    · simp only [walkN, up1]
      rw [if_neg (by omega), if_neg (by omega), if_neg (by omega)]
      exact a3
def cltN (p : pP) (H : pN) (a s : Nat) : Nat → pN → pN
  | 0, T => T
  | n + 1, T => if lackN H T a = 0 ∨ T a < s then T else cltN p H a s n (walkN T a s 0 (cntN p T s 0 0 (T 24)))
theorem clt_stop {p : pP} {H T : pN} {a s : Nat} (n : Nat) (h : lackN H T a = 0 ∨ T a < s) : cltN p H a s n T = T := by
  cases n with
  | zero => rfl
  | succ n => simp only [cltN]; rw [if_pos h]
theorem clt_go {p : pP} {H T : pN} {a s : Nat} {n : Nat} (hn : 0 < n) (h : ¬ (lackN H T a = 0 ∨ T a < s)) : cltN p H a s n T = cltN p H a s (n - 1) (walkN T a s 0 (cntN p T s 0 0 (T 24))) := by
  cases n with
  | zero => omega
  | succ n => simp only [cltN]; rw [if_neg h]; rfl
theorem rS_clt {B : Nat} {p : pP} {H : pN} {a s : Nat} (ha : a < 8) : ∀ (n : Nat) (T : pN), rS B H T → rS B H (cltN p H a s n T)
  | 0, _, h => h
  | n + 1, T, h => by
    simp only [cltN]
    split
    · exact h
    · exact rS_clt ha n _ (rS_walk h ha)
def setN (p pm : pP) (H : pN) (a s : Nat) : Nat → Nat → pN → Option Nat
  | 0, _, _ => none
  | n + 1, w, T => if lackN H (cltN p H a s 40 T) a = 0 then some w else setN p pm H a s n (w + 1) (weekN pm H (cltN p H a s 40 T))
theorem set_yes {p pm : pP} {H T : pN} {a s n w : Nat} (hn : 0 < n) (h : lackN H (cltN p H a s 40 T) a = 0) : setN p pm H a s n w T = some w := by
  cases n with
  | zero => omega
  | succ n => simp only [setN]; rw [if_pos h]
theorem set_no {p pm : pP} {H T : pN} {a s n w : Nat} (hn : 0 < n) (h : ¬ lackN H (cltN p H a s 40 T) a = 0) : setN p pm H a s n w T = setN p pm H a s (n - 1) (w + 1) (weekN pm H (cltN p H a s 40 T)) := by
  cases n with
  | zero => omega
  | succ n => simp only [setN]; rw [if_neg h]; rfl
theorem lack_leB {B : Nat} {H T : pN} {j : Nat} (hr : rH H) (hrT : rS B H T) (hj : j < 8) : H (32 + j) ≤ 999 ∧ T (16 + j) ≤ 100000000 ∧ T (8 + j) ≤ 9999 ∧ lackN H T j ≤ 100001000 := by
  have b1 := (hr.2.2.2.2 j hj).2.2.2.1
  have b2 := (hrT.2.2.2.2 j hj).2.2
  have b3 := hrT.2.1
  have b4 := hrT.2.2.2.1
  have b5 := (hrT.2.2.2.2 j hj).2.1
  have b6 := Nat.mul_le_mul_left 1000 (Nat.le_trans b3 b4)
  refine ⟨b1, by omega, b5, ?_⟩
  unfold lackN
  omega
theorem sx.sbx {s : Nat} {I I1 I2 : pHI} (h : sx s I I1) (hb : sb I1 I2) : sx s I I2 := h.tr hb.sx
theorem brN0 (s : Nat) : brN s 0 = s := by simp [brN]
