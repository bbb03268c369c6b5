/-! gifts -/
/-- the first of the last k of n -/
def fstN (P : Nat → Bool) (n : Nat) : Nat → Option Nat
  | 0 => none
  | k + 1 => if P (n - (k + 1)) = true then some (n - (k + 1)) else fstN P n k
theorem fst_some {P : Nat → Bool} {n i : Nat} : ∀ {k : Nat}, k ≤ n → fstN P n k = some i → i < n ∧ P i = true
  | 0, _, h => by simp [fstN] at h
  | k + 1, hk, h => by
    simp only [fstN] at h
    split at h
    · rename_i c
      cases h
      exact ⟨by omega, c⟩
    · exact fst_some (by omega) h
theorem fst_none {P : Nat → Bool} {n : Nat} : ∀ {k : Nat}, k ≤ n → fstN P n k = none → ∀ i, n - k ≤ i → i < n → P i = false
  | 0, _, _, i, h1, h2 => by omega
  | k + 1, hk, h, i, h1, h2 => by
    simp only [fstN] at h
    split at h
    · simp at h
    · rename_i c
      by_cases e : i = n - (k + 1)
      · subst e; simpa using c
      · exact fst_none (by omega) h i (by omega) h2
theorem fst_step {P : Nat → Bool} {n m : Nat} (hm : m < n) : fstN P n (n - m) = if P m = true then some m else fstN P n (n - (m + 1)) := by
  obtain ⟨k, hk⟩ : ∃ k, n - m = k + 1 := ⟨n - (m + 1), by omega⟩
  rw [hk, show n - (m + 1) = k by omega]
  simp only [fstN]
  rw [show n - (k + 1) = m by omega]
theorem oI_eq {o : Option Nat} {a : Nat} (hb : ∀ b, o = some b → b < 2 ^ 31) (ha : a < 2 ^ 31) (h : oI o = nI a) : o = some a := by
  cases o with
  | none => exact absurd h.symm (nI_m1n ha)
  | some b => rw [nq_eq (hb b rfl) ha h]
theorem pu_o {I : pHI} {c k k' : Nat} {x v : Int32} (h : k' ≠ k) (e : I c k' = v) : pu I c k x c k' = v := by
  rw [pu_at, if_neg (fun q => h q.2)]; exact e
def gvP (H T : pN) (j : Nat) : Bool := decide (0 < surpN H T j)
def tkP (H T : pN) (j : Nat) : Bool := decide (0 < lackN H T j ∧ T (8 + j) < 9999)
def gfN (H T : pN) (a b : Nat) : Nat := min (min (surpN H T a) (lackN H T b)) (9999 - T (8 + b))
def gifN (H : pN) : Nat → Nat → Nat → pN → Nat × Nat × pN
  | 0, t, s, T => (t, s, T)
  | n + 1, t, s, T => match fstN (gvP H T) (H 1) (H 1), fstN (tkP H T) (H 1) (H 1) with
    | some a, some b => gifN H n (t + 1) (s + gfN H T a b) (givN T a b (gfN H T a b))
    | _, _ => (t, s, T)
theorem gif_none {H T : pN} {t s : Nat} (n : Nat) (h : fstN (gvP H T) (H 1) (H 1) = none ∨ fstN (tkP H T) (H 1) (H 1) = none) : gifN H n t s T = (t, s, T) := by
  cases n with
  | zero => rfl
  | succ n =>
    simp only [gifN]
    rcases h with h | h
    · rw [h]
    · rw [h]; split
      · rename_i e; simp at e
      · rfl
theorem gif_some {H T : pN} {t s n a b : Nat} (hn : 0 < n) (h1 : fstN (gvP H T) (H 1) (H 1) = some a) (h2 : fstN (tkP H T) (H 1) (H 1) = some b) : gifN H n t s T = gifN H (n - 1) (t + 1) (s + gfN H T a b) (givN T a b (gfN H T a b)) := by
  cases n with
  | zero => omega
  | succ n => simp only [gifN]; rw [h1, h2]; rfl
theorem giv_at (T : pN) {a b m : Nat} (hab : a ≠ b) : givN T a b m (8 + a) = T (8 + a) - m ∧ givN T a b m (8 + b) = T (8 + b) + m ∧ (∀ k, k ≠ 8 + a → k ≠ 8 + b → givN T a b m k = T k) := by
  refine ⟨?_, ?_, fun k h1 h2 => ?_⟩ <;> simp only [givN, up1]
  · rw [if_neg (by omega), if_pos trivial]
  · rw [if_pos trivial]
  · rw [if_neg h2, if_neg h1]
theorem rS_giv {B : Nat} {H T : pN} {a b m : Nat} (h : rS B H T) (hab : a ≠ b) (ha : a < 8) (hb : b < 8) (hm : T (8 + b) + m ≤ 9999) : rS B H (givN T a b m) := by
  obtain ⟨h1, h2, h3, h4, h5⟩ := h
  obtain ⟨e1, e2, e3⟩ := giv_at T (m := m) hab
  refine ⟨?_, ?_, ?_, h4, fun i hi => ?_⟩
  · rw [e3 25 (by omega) (by omega)]; exact h1
  · rw [e3 26 (by omega) (by omega)]; exact h2
  · rw [e3 27 (by omega) (by omega)]; exact h3
  · obtain ⟨a1, a2, a3⟩ := h5 i hi
    rw [e3 26 (by omega) (by omega), e3 i (by omega) (by omega), e3 (16 + i) (by omega) (by omega)]
    refine ⟨a1, ?_, a3⟩
    by_cases c1 : i = a
    · subst c1; rw [e1]; omega
    · by_cases c2 : i = b
      · subst c2; rw [e2]; exact hm
      · rw [e3 (8 + i) (by omega) (by omega)]; exact a2
/-- who may give and who may take -/
def gtN (H T : pN) : Nat := cntP (gvP H T) (H 1) + cntP (tkP H T) (H 1)
theorem cntP_mono {P P' : Nat → Bool} : ∀ (n : Nat), (∀ j, j < n → P' j = true → P j = true) → cntP P' n ≤ cntP P n
  | 0, _ => Nat.le_refl _
  | n + 1, h => by
    have h1 := cntP_mono n (fun j hj => h j (by omega))
    have h2 := h n (by omega)
    simp only [cntP]
    by_cases c : P' n = true
    · rw [if_pos c, if_pos (h2 c)]; omega
    · rw [if_neg c]; omega
theorem cntP_less {P P' : Nat → Bool} {i : Nat} : ∀ (n : Nat), (∀ j, j < n → P' j = true → P j = true) → i < n → P i = true → P' i = false → cntP P' n < cntP P n
  | 0, _, hi, _, _ => by omega
  | n + 1, h, hi, h1, h2 => by
    simp only [cntP]
    by_cases e : i = n
    · subst e
      have := cntP_mono i (fun j hj => h j (by omega))
      rw [if_pos h1, h2]
      simp
      omega
    · have h3 := cntP_less n (fun j hj => h j (by omega)) (by omega) h1 h2
      have h4 := h n (by omega)
      by_cases c : P' n = true
      · rw [if_pos c, if_pos (h4 c)]; omega
      · rw [if_neg c]; omega
theorem gt_less {H T : pN} {a b : Nat} (h8 : H 1 ≤ 8) (h1 : fstN (gvP H T) (H 1) (H 1) = some a) (h2 : fstN (tkP H T) (H 1) (H 1) = some b) : a ≠ b ∧ a < H 1 ∧ b < H 1 ∧ 0 < gfN H T a b ∧ gfN H T a b ≤ T (8 + a) ∧ T (8 + b) + gfN H T a b ≤ 9999 ∧ gtN H (givN T a b (gfN H T a b)) < gtN H T := by
  obtain ⟨a1, a2⟩ := fst_some (Nat.le_refl _) h1
  obtain ⟨b1, b2⟩ := fst_some (Nat.le_refl _) h2
  have a3 := of_decide_eq_true a2
  have b3 := of_decide_eq_true b2
  unfold surpN at a3
  have b4 := b3.1
  unfold lackN at b4
  have hab : a ≠ b := by
    intro e
    subst e
    omega
  obtain ⟨e1, e2, e3⟩ := giv_at T (m := gfN H T a b) hab
  have hg : 0 < gfN H T a b ∧ gfN H T a b ≤ T (8 + a) - H (32 + a) - T (16 + a) ∧ gfN H T a b ≤ H (32 + b) + T (16 + b) - T (8 + b) ∧ gfN H T a b ≤ 9999 - T (8 + b) ∧ (gfN H T a b = T (8 + a) - H (32 + a) - T (16 + a) ∨ gfN H T a b = H (32 + b) + T (16 + b) - T (8 + b) ∨ gfN H T a b = 9999 - T (8 + b)) := by
    unfold gfN surpN lackN
    omega
  refine ⟨hab, a1, b1, hg.1, by omega, by omega, ?_⟩
  generalize gfN H T a b = m at *
  have g16 : ∀ j, givN T a b m (16 + j) = T (16 + j) := fun j => e3 _ (by omega) (by omega)
  have gv : ∀ j, j < H 1 → gvP H (givN T a b m) j = true → gvP H T j = true := fun j hj h => by
    have h := of_decide_eq_true h
    apply decide_eq_true
    unfold surpN at h ⊢
    rw [g16] at h
    by_cases ca : j = a
    · subst ca; omega
    · by_cases cb : j = b
      · subst cb; rw [e2] at h; omega
      · rw [e3 (8 + j) (by omega) (by omega)] at h; exact h
  have tk : ∀ j, j < H 1 → tkP H (givN T a b m) j = true → tkP H T j = true := fun j hj h => by
    have h := of_decide_eq_true h
    apply decide_eq_true
    unfold lackN at h ⊢
    rw [g16] at h
    by_cases ca : j = a
    · subst ca; rw [e1] at h; omega
    · by_cases cb : j = b
      · subst cb; rw [e2] at h; omega
      · rw [e3 (8 + j) (by omega) (by omega)] at h; exact h
  have l1 := cntP_mono (H 1) gv
  have l2 := cntP_mono (H 1) tk
  unfold gtN
  rcases hg.2.2.2.2 with c | c
  · have := cntP_less (H 1) gv a1 a2 (by
      apply decide_eq_false
      unfold surpN
      rw [g16, e1]
      omega)
    omega
  · have := cntP_less (H 1) tk b1 b2 (by
      apply decide_eq_false
      unfold lackN
      rw [g16, e2]
      omega)
    omega
theorem gt_le (H T : pN) : gtN H T ≤ H 1 + H 1 := Nat.add_le_add (cntP_le _ _) (cntP_le _ _)
theorem rS_gif {B : Nat} {H : pN} (h8 : H 1 ≤ 8) : ∀ (n t s : Nat) (T : pN), rS B H T → rS B H (gifN H n t s T).2.2
  | 0, _, _, _, h => h
  | n + 1, t, s, T, h => by
    cases e1 : fstN (gvP H T) (H 1) (H 1) with
    | none => rw [gif_none _ (Or.inl e1)]; exact h
    | some a =>
      cases e2 : fstN (tkP H T) (H 1) (H 1) with
      | none => rw [gif_none _ (Or.inr e2)]; exact h
      | some b =>
        obtain ⟨q1, q2, q3, q4, q5, q6, q7⟩ := gt_less h8 e1 e2
        rw [gif_some (Nat.succ_pos n) e1 e2]
        exact rS_gif h8 n _ _ _ (rS_giv h q1 (by omega) (by omega) q6)
theorem gv_y {H T : pN} {m : Nat} (h : 0 < surpN H T m) : gvP H T m = true := decide_eq_true h
theorem gv_n {H T : pN} {m : Nat} (h : surpN H T m = 0) : ¬ gvP H T m = true := fun q => by
  have := of_decide_eq_true q
  omega
theorem tk_y {H T : pN} {m : Nat} (h : 0 < lackN H T m) (h2 : T (8 + m) < 9999) : tkP H T m = true := decide_eq_true ⟨h, h2⟩
theorem tk_n1 {H T : pN} {m : Nat} (h : lackN H T m = 0) : ¬ tkP H T m = true := fun q => by
  have := (of_decide_eq_true q).1
  omega
theorem tk_n2 {H T : pN} {m : Nat} (h : 9999 ≤ T (8 + m)) : ¬ tkP H T m = true := fun q => by
  have := (of_decide_eq_true q).2
  omega
theorem gv_y2 {H T : pN} {m : Nat} (h : H (32 + m) + T (16 + m) < T (8 + m)) : gvP H T m = true := gv_y (by unfold surpN; omega)
theorem gv_n2 {H T : pN} {m : Nat} (h : T (8 + m) ≤ H (32 + m) + T (16 + m)) : ¬ gvP H T m = true := gv_n (by unfold surpN; omega)
