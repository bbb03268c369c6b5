/-! what climbs and weeks do, as numbers -/
def up1 (T : pN) (k v : Nat) : pN := fun i => if i = k then v else T i
def inp (a b c : Int32) (T : pN) (cl : Nat) : Nat → Int32 := fun i => if i = 1 then a else if i = 2 then b else if i = 3 then c else if i = 4 then nI (T 26) else if i = 5 then nI cl else nI (T 25)
def cntN (p : pP) (T : pN) (s hv nt cl : Nat) : Nat := clp (ev p (inp (nI s) (nI hv) (nI nt) T cl)) 999
def sumN (f : Nat → Nat) : Nat → Nat
  | 0 => 0
  | n + 1 => sumN f n + f n
def hvAll (H : pN) : Nat := sumN (fun j => H (24 + j)) (H 1)
def pullV (p : pP) (H T : pN) (cl : Nat) : Int32 := ev p (inp (nI (H 0)) (nI (hvAll H)) (nI 0) T cl)
def liftN (p : pP) (H T : pN) (cl : Nat) : Nat := clp (nI (T 25) + pullV p H T cl) (H 0)
def payN (H T : pN) (j : Nat) : pN := up1 (up1 T (16 + j) (T (16 + j) + H (32 + j) - min (T (16 + j) + H (32 + j)) (T (8 + j)))) (8 + j) (T (8 + j) - min (T (16 + j) + H (32 + j)) (T (8 + j)))
def wkJ (H : pN) (due : Bool) (T : pN) : Nat → pN
  | 0 => T
  | j + 1 => if due = true then payN H (up1 (wkJ H due T j) j (H (16 + j))) j else up1 (wkJ H due T j) j (H (16 + j))
def weekN (p : pP) (H T : pN) : pN := wkJ H ((T 26 + 1) % 4 == 0) (up1 (up1 (up1 T 25 (liftN p H T (T 24))) 24 0) 26 (T 26 + 1)) (H 1)
/-- a climb that counts so much -/
def walkN (T : pN) (j s hv cnt : Nat) : pN := up1 (up1 (up1 T (8 + j) (min 9999 (T (8 + j) + cnt))) j (T j - brN s hv)) 24 (T 24 + s)
/-- whether a climb can be, and what it is then -/
def CCw (H T : pN) (te by_ ca ni : Int32) (j s nt : Nat) (c : Option Nat) : Prop := te = nI j ∧ j < H 1 ∧ by_ = nI s ∧ (1 ≤ s ∧ s ≤ H 0) ∧ ni = nI nt ∧ nt ≤ 1 ∧ ((c = none ∧ ca = -1) ∨ ∃ i, c = some i ∧ ca = nI i ∧ i < H 1 ∧ i ≠ j) ∧ brN s (hvN H c) ≤ T j
/-- cells of a state, and scratch, may differ -/
def sx (s : Nat) (I I' : pHI) : Prop := ∀ c k, ¬ scF c k → ¬ (s ≤ c ∧ c ≤ s + 3) → I' c k = I c k
theorem sx.rf {s : Nat} {I : pHI} : sx s I I := fun _ _ _ _ => rfl
theorem sx.tr {s : Nat} {I I1 I2 : pHI} (h1 : sx s I I1) (h2 : sx s I1 I2) : sx s I I2 := fun c k a b => (h2 c k a b).trans (h1 c k a b)
theorem sb.sx {s : Nat} {I I' : pHI} (h : sb I I') : sx s I I' := fun c k a _ => h c k a
theorem sx.pu {s c k : Nat} {I I1 : pHI} {x : Int32} (h : sx s I I1) (hc : s ≤ c ∧ c ≤ s + 3) : sx s I (pu I1 c k x) := by
  intro c' k' a b
  rw [pu_at, if_neg (fun q => b (by rw [q.1]; exact hc))]
  exact h c' k' a b
theorem cS.sb {s : Nat} {T : pN} {I I' : pHI} (hs : isS s) (h : cS s T I) (hb : sb I I') : cS s T I' := by
  obtain ⟨h1, h2, h3, h4, h5⟩ := h
  have n : ∀ c k, s ≤ c → c ≤ s + 3 → I' c k = I c k := fun c k a b => hb c k (by rcases hs with rfl | rfl <;> (simp only [scF]; omega))
  exact ⟨by rw [n s _ (by omega) (by omega)]; exact h1, by rw [n s _ (by omega) (by omega)]; exact h2, by rw [n s _ (by omega) (by omega)]; exact h3, by rw [n s _ (by omega) (by omega)]; exact h4, fun j hj => by
    rw [n (s + 1) _ (by omega) (by omega), n (s + 2) _ (by omega) (by omega), n (s + 3) _ (by omega) (by omega)]
    exact h5 j hj⟩
theorem cH.off {o : Nat} {H : pN} {I I' : pHI} (h : cH o H I) (n : ∀ c k, o ≤ c → c ≤ o + 5 → I' c k = I c k) : cH o H I' := by
  obtain ⟨h1, h2, h3, h4, h5, h6⟩ := h
  exact ⟨by rw [n o _ (by omega) (by omega)]; exact h1, by rw [n o _ (by omega) (by omega)]; exact h2, by rw [n o _ (by omega) (by omega)]; exact h3, by rw [n o _ (by omega) (by omega)]; exact h4, by rw [n o _ (by omega) (by omega)]; exact h5, fun j hj => by
    rw [n (o + 1) _ (by omega) (by omega), n (o + 2) _ (by omega) (by omega), n (o + 3) _ (by omega) (by omega), n (o + 4) _ (by omega) (by omega), n (o + 5) _ (by omega) (by omega)]
    exact h6 j hj⟩
theorem cH.sx {o s : Nat} {H : pN} {I I' : pHI} (ho : isH o) (hs : isS s) (h : cH o H I) (hb : sx s I I') : cH o H I' :=
  h.off (fun c k a b => hb c k (by rcases ho with rfl | rfl <;> (simp only [scF]; omega)) (by rcases ho with rfl | rfl <;> rcases hs with rfl | rfl <;> omega))
theorem cF.sx {f s : Nat} {p : pP} {I I' : pHI} (hf : isF f) (hs : isS s) (h : cF f p I) (hb : sx s I I') : cF f p I' := by
  obtain ⟨h1, h2, h3⟩ := h
  have n : ∀ c k, f ≤ c → c ≤ f + 2 → (c = f → k ≠ 4) → I' c k = I c k := fun c k a b d => hb c k (by rcases hf with rfl | rfl | rfl | rfl <;> (simp only [scF]; omega)) (by rcases hf with rfl | rfl | rfl | rfl <;> rcases hs with rfl | rfl <;> omega)
  refine ⟨h1, by rw [n f 2 (by omega) (by omega) (by omega)]; exact h2, fun i q hi => ?_⟩
  rw [n (f + 1) _ (by omega) (by omega) (by omega), n (f + 2) _ (by omega) (by omega) (by omega)]
  exact h3 i q hi
/-- one number of a state anew -/
theorem cS.br {s j v : Nat} {T : pN} {I : pHI} (h : cS s T I) (hj : j < 8) : cS s (up1 T j v) (pu I (s + 1) j (nI v)) := by
  obtain ⟨h1, h2, h3, h4, h5⟩ := h
  refine ⟨?_, ?_, ?_, ?_, fun i hi => ⟨?_, ?_, ?_⟩⟩ <;> simp only [pu_at, up1]
  · rw [if_neg (by omega), if_neg (by omega)]; exact h1
  · rw [if_neg (by omega), if_neg (by omega)]; exact h2
  · rw [if_neg (by omega), if_neg (by omega)]; exact h3
  · rw [if_neg (by omega), if_neg (by omega)]; exact h4
  · by_cases e : i = j
    · simp [e]
    · rw [if_neg (by omega), if_neg e]; exact (h5 i hi).1
  · rw [if_neg (by omega), if_neg (by omega)]; exact (h5 i hi).2.1
  · rw [if_neg (by omega), if_neg (by omega)]; exact (h5 i hi).2.2
theorem cS.pd {s j v : Nat} {T : pN} {I : pHI} (h : cS s T I) (hj : j < 8) : cS s (up1 T (8 + j) v) (pu I (s + 2) j (nI v)) := by
  obtain ⟨h1, h2, h3, h4, h5⟩ := h
  refine ⟨?_, ?_, ?_, ?_, fun i hi => ⟨?_, ?_, ?_⟩⟩ <;> simp only [pu_at, up1]
  · rw [if_neg (by omega), if_neg (by omega)]; exact h1
  · rw [if_neg (by omega), if_neg (by omega)]; exact h2
  · rw [if_neg (by omega), if_neg (by omega)]; exact h3
  · rw [if_neg (by omega), if_neg (by omega)]; exact h4
  · rw [if_neg (by omega), if_neg (by omega)]; exact (h5 i hi).1
  · by_cases e : i = j
    · simp [e]
    · rw [if_neg (by omega), if_neg (by omega)]; exact (h5 i hi).2.1
  · rw [if_neg (by omega), if_neg (by omega)]; exact (h5 i hi).2.2
theorem cS.db {s j v : Nat} {T : pN} {I : pHI} (h : cS s T I) (hj : j < 8) : cS s (up1 T (16 + j) v) (pu I (s + 3) j (nI v)) := by
  obtain ⟨h1, h2, h3, h4, h5⟩ := h
  refine ⟨?_, ?_, ?_, ?_, fun i hi => ⟨?_, ?_, ?_⟩⟩ <;> simp only [pu_at, up1]
  · rw [if_neg (by omega), if_neg (by omega)]; exact h1
  · rw [if_neg (by omega), if_neg (by omega)]; exact h2
  · rw [if_neg (by omega), if_neg (by omega)]; exact h3
  · rw [if_neg (by omega), if_neg (by omega)]; exact h4
  · rw [if_neg (by omega), if_neg (by omega)]; exact (h5 i hi).1
  · rw [if_neg (by omega), if_neg (by omega)]; exact (h5 i hi).2.1
  · by_cases e : i = j
    · simp [e]
    · rw [if_neg (by omega), if_neg (by omega)]; exact (h5 i hi).2.2
theorem cS.sc {s k q v : Nat} {T : pN} {I : pHI} (h : cS s T I) (hk : (k = 3 ∧ q = 24) ∨ (k = 4 ∧ q = 25) ∨ (k = 5 ∧ q = 26) ∨ (k = 6 ∧ q = 27)) : cS s (up1 T q v) (pu I s k (nI v)) := by
  obtain ⟨h1, h2, h3, h4, h5⟩ := h
  refine ⟨?_, ?_, ?_, ?_, fun i hi => ⟨?_, ?_, ?_⟩⟩ <;> simp only [pu_at, up1]
  · by_cases e : k = 3
    · obtain rfl : q = 24 := by omega
      subst e
      simp
    · rw [if_neg (by omega), if_neg (by omega)]; exact h1
  · by_cases e : k = 4
    · obtain rfl : q = 25 := by omega
      subst e
      simp
    · rw [if_neg (by omega), if_neg (by omega)]; exact h2
  · by_cases e : k = 5
    · obtain rfl : q = 26 := by omega
      subst e
      simp
    · rw [if_neg (by omega), if_neg (by omega)]; exact h3
  · by_cases e : k = 6
    · obtain rfl : q = 27 := by omega
      subst e
      simp
    · rw [if_neg (by omega), if_neg (by omega)]; exact h4
  · rw [if_neg (by omega), if_neg (by omega)]; exact (h5 i hi).1
  · rw [if_neg (by omega), if_neg (by omega)]; exact (h5 i hi).2.1
  · rw [if_neg (by omega), if_neg (by omega)]; exact (h5 i hi).2.2
theorem sumN_le {f : Nat → Nat} {B : Nat} : ∀ n, (∀ j, j < n → f j ≤ B) → sumN f n ≤ B * n
  | 0, _ => by simp [sumN]
  | n + 1, h => by
    have h1 := sumN_le n (fun j hj => h j (by omega))
    have h2 := h n (by omega)
    simp only [sumN, Nat.mul_succ]
    omega
theorem wk_at (H : pN) (due : Bool) (T : pN) : ∀ j, j ≤ 8 → (∀ i, i < 8 → wkJ H due T j i = if i < j then H (16 + i) else T i) ∧ (∀ i, i < 8 → wkJ H due T j (8 + i) = if i < j ∧ due = true then T (8 + i) - min (T (16 + i) + H (32 + i)) (T (8 + i)) else T (8 + i)) ∧ (∀ i, i < 8 → wkJ H due T j (16 + i) = if i < j ∧ due = true then T (16 + i) + H (32 + i) - min (T (16 + i) + H (32 + i)) (T (8 + i)) else T (16 + i)) ∧ ∀ k, 24 ≤ k → wkJ H due T j k = T k := by
  intro j
  induction j with
  | zero => intro _; simp [wkJ]
  | succ j ih =>
    intro hj
    obtain ⟨h1, h2, h3, h4⟩ := ih (by omega)
    have a2 := h2 j (by omega)
    have a3 := h3 j (by omega)
    simp only [Nat.lt_irrefl, false_and, if_false] at a2 a3
    cases due with
    | true =>
      have e1 : ∀ k, k ≠ j → up1 (wkJ H true T j) j (H (16 + j)) k = wkJ H true T j k := fun k hk => by simp only [up1]; rw [if_neg hk]
      have b2 := e1 (8 + j) (by omega)
      have b3 := e1 (16 + j) (by omega)
      simp only [wkJ, if_true, payN, and_true] at *
      rw [b2, b3, a2, a3]
      refine ⟨fun i hi => ?_, fun i hi => ?_, fun i hi => ?_, fun k hk => ?_⟩
      · simp only [up1]
        rw [if_neg (by omega), if_neg (by omega)]
        by_cases e : i = j
        · subst e; simp
        · rw [if_neg e, h1 i hi]
          by_cases e2 : i < j
          · rw [if_pos e2, if_pos (by omega)]
          · rw [if_neg e2, if_neg (by omega)]
      · simp only [up1]
        by_cases e : i = j
        · subst e; simp
        · rw [if_neg (by omega), if_neg (by omega), if_neg (by omega), h2 i hi]
          by_cases e2 : i < j
          · rw [if_pos e2, if_pos (by omega)]
          · rw [if_neg e2, if_neg (by omega)]
      · simp only [up1]
        by_cases e : i = j
        · subst e; rw [if_neg (by omega), if_pos rfl, if_pos (by omega)]
        · rw [if_neg (by omega), if_neg (by omega), if_neg (by omega), h3 i hi]
          by_cases e2 : i < j
          · rw [if_pos e2, if_pos (by omega)]
          · rw [if_neg e2, if_neg (by omega)]
      · simp only [up1]
        rw [if_neg (by omega), if_neg (by omega), if_neg (by omega)]
        exact h4 k hk
    | false =>
      simp only [wkJ, Bool.false_eq_true, if_false, and_false] at *
      refine ⟨fun i hi => ?_, fun i hi => ?_, fun i hi => ?_, fun k hk => ?_⟩
      · simp only [up1]
        by_cases e : i = j
        · subst e; simp
        · rw [if_neg e, h1 i hi]
          by_cases e2 : i < j
          · rw [if_pos e2, if_pos (by omega)]
          · rw [if_neg e2, if_neg (by omega)]
      · simp only [up1]
        rw [if_neg (by omega)]
        exact h2 i hi
      · simp only [up1]
        rw [if_neg (by omega)]
        exact h3 i hi
      · simp only [up1]
        rw [if_neg (by omega)]
        exact h4 k hk
theorem in_tn {x : Int32} {n : Nat} (h8 : n ≤ 8) (h1 : ¬ x < nI 0) (h2 : ¬ nI n - nI 1 < x) : ∃ j, j < n ∧ x = nI j := by
  rw [Int32.lt_iff_toInt_lt, nI_toInt (by omega)] at h1
  rw [Int32.lt_iff_toInt_lt, Int32.toInt_sub, nI_toInt (by omega), nI_toInt (by omega), Int.bmod_def] at h2
  obtain ⟨j, hj, e⟩ := nI_of (x := x) (by rw [Int32.lt_iff_toInt_lt, Int32.toInt_zero]; omega)
  refine ⟨j, ?_, e⟩
  rw [e, nI_toInt hj] at h1 h2
  omega
theorem out_tn {x : Int32} {n : Nat} (h8 : n ≤ 8) (h : x < nI 0 ∨ nI n - nI 1 < x) : ∀ j, j < n → x ≠ nI j := by
  intro j hj e
  subst e
  rw [Int32.lt_iff_toInt_lt, Int32.lt_iff_toInt_lt, Int32.toInt_sub, nI_toInt (by omega), nI_toInt (by omega), nI_toInt (by omega), nI_toInt (by omega), Int.bmod_def] at h
  omega
