/-! weeks on end -/
def wksN (p : pP) (H T : pN) : Nat → pN
  | 0 => T
  | n + 1 => weekN p H (wksN p H T n)
theorem rS_week {B : Nat} {p : pP} {H T : pN} (hr : rH H) (h : rS B H T) (hB : B < 10000) : rS (B + 1) H (weekN p H T) := by
  obtain ⟨h1, h2, h3, h4, h5⟩ := h
  have hn8 := hr.2.1
  have h9 := wk_at H ((T 26 + 1) % 4 == 0) (up1 (up1 (up1 T 25 (liftN p H T (T 24))) 24 0) 26 (T 26 + 1)) (H 1) hn8
  have e25 : weekN p H T 25 = liftN p H T (T 24) := h9.2.2.2 25 (by omega)
  have e26 : weekN p H T 26 = T 26 + 1 := h9.2.2.2 26 (by omega)
  have e27 : weekN p H T 27 = T 27 := h9.2.2.2 27 (by omega)
  refine ⟨?_, ?_, ?_, by omega, fun j hj => ?_⟩
  · rw [e25]; exact clp_le _ _
  · rw [e26]; omega
  · rw [e27]; exact h3
  · have g0 := h9.1 j hj
    have g1 := h9.2.1 j hj
    have g2 := h9.2.2.1 j hj
    have k0 : up1 (up1 (up1 T 25 (liftN p H T (T 24))) 24 0) 26 (T 26 + 1) j = T j := by simp only [up1]; rw [if_neg (by omega), if_neg (by omega), if_neg (by omega)]
    have k1 : up1 (up1 (up1 T 25 (liftN p H T (T 24))) 24 0) 26 (T 26 + 1) (8 + j) = T (8 + j) := by simp only [up1]; rw [if_neg (by omega), if_neg (by omega), if_neg (by omega)]
    have k2 : up1 (up1 (up1 T 25 (liftN p H T (T 24))) 24 0) 26 (T 26 + 1) (16 + j) = T (16 + j) := by simp only [up1]; rw [if_neg (by omega), if_neg (by omega), if_neg (by omega)]
    rw [k0] at g0
    rw [k1, k2] at g1 g2
    have a := h5 j hj
    have b := hr.2.2.2.2 j hj
    have w0 : weekN p H T j = if j < H 1 then H (16 + j) else T j := g0
    have w1 : weekN p H T (8 + j) = _ := g1
    have w2 : weekN p H T (16 + j) = _ := g2
    rw [w0, w1, w2, e26]
    refine ⟨?_, ?_, ?_⟩ <;> split <;> omega
theorem rS_wks {p : pP} {H T : pN} (hr : rH H) (h : rS 999 H T) : ∀ n, n ≤ 1000 → rS (999 + n) H (wksN p H T n)
  | 0, _ => h
  | n + 1, hn => rS_week (B := 999 + n) hr (rS_wks hr h n (by omega)) (by omega)
theorem cS.o37 {T : pN} {I I' : pHI} (h : cS 33 T I) (hb : sx 37 I I') : cS 33 T I' := by
  obtain ⟨h1, h2, h3, h4, h5⟩ := h
  have n : ∀ c k, 33 ≤ c → c ≤ 36 → I' c k = I c k := fun c k a b => hb c k (by simp only [scF]; omega) (by omega)
  exact ⟨by rw [n 33 _ (by omega) (by omega)]; exact h1, by rw [n 33 _ (by omega) (by omega)]; exact h2, by rw [n 33 _ (by omega) (by omega)]; exact h3, by rw [n 33 _ (by omega) (by omega)]; exact h4, fun j hj => by
    rw [n 34 _ (by omega) (by omega), n 35 _ (by omega) (by omega), n 36 _ (by omega) (by omega)]
    exact h5 j hj⟩
theorem in_rng {x : Int32} {a b : Nat} (ha : a < 2 ^ 31) (hb : b < 2 ^ 31) (h1 : ¬ x < nI a) (h2 : ¬ nI b < x) : ∃ j, x = nI j ∧ a ≤ j ∧ j ≤ b := by
  rw [Int32.lt_iff_toInt_lt, nI_toInt ha] at h1
  rw [Int32.lt_iff_toInt_lt, nI_toInt hb] at h2
  obtain ⟨j, hj, e⟩ := nI_of (x := x) (by rw [Int32.lt_iff_toInt_lt, Int32.toInt_zero]; omega)
  refine ⟨j, e, ?_⟩
  rw [e, nI_toInt hj] at h1 h2
  omega
theorem out_rng {x : Int32} {a b : Nat} (ha : a < 2 ^ 31) (hb : b < 2 ^ 31) (h : x < nI a ∨ nI b < x) : ∀ j, a ≤ j → j ≤ b → x ≠ nI j := by
  intro j h1 h2 e
  subst e
  rw [Int32.lt_iff_toInt_lt, Int32.lt_iff_toInt_lt, nI_toInt (by omega), nI_toInt (by omega), nI_toInt (by omega)] at h
  omega
theorem mS.load {T : pN} {I : pHI} (h : mS 90 T I) : mS 91 T (pz I 91 (fun q => if q < 28 then I 90 q else I 91 q)) := by
  intro k hk
  rw [pz_eq, if_pos hk]
  exact h k hk
theorem sm.load {I : pHI} {g : Nat → Int32} : sm I (pz I 91 g) := fun c k _ h => by rw [pz_ne _ _ h]
theorem mS.sm90 {T : pN} {I I' : pHI} (h : mS 90 T I) (hb : sm I I') : mS 90 T I' := fun k hk => by rw [hb 90 k (by simp [scF]) (by decide)]; exact h k hk
theorem week25 {p : pP} {H T : pN} (hn : H 1 ≤ 8) : weekN p H T 25 = liftN p H T (T 24) := (wk_at H _ _ (H 1) hn).2.2.2 25 (by omega)
theorem rS_up24 {B v : Nat} {H T : pN} (h : rS B H T) : rS B H (up1 T 24 v) := by
  obtain ⟨h1, h2, h3, h4, h5⟩ := h
  refine ⟨h1, h2, h3, h4, fun j hj => ?_⟩
  simp only [up1]
  rw [if_neg (by omega), if_neg (by omega), if_neg (by omega), if_neg (by omega)]
  exact h5 j hj
