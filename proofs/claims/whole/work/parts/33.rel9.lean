/-! acts, done and undone -/
def sK (I I' : pHI) : Prop := ∀ c k, ¬ scF c k → ¬ (33 ≤ c ∧ c ≤ 36) → c ≠ 41 → c ≠ 42 → I' c k = I c k
theorem sK.rf {I : pHI} : sK I I := fun _ _ _ _ _ _ => rfl
theorem sK.tr {I I1 I2 : pHI} (h1 : sK I I1) (h2 : sK I1 I2) : sK I I2 := fun c k a b d e => (h2 c k a b d e).trans (h1 c k a b d e)
theorem sk.sK {I I' : pHI} (h : sk I I') : sK I I' := fun c k _ _ d e => h c k d e
theorem sb.sK {I I' : pHI} (h : sb I I') : sK I I' := fun c k a _ _ _ => h c k a
theorem sx.sK {I I' : pHI} (h : sx 33 I I') : sK I I' := fun c k a b _ _ => h c k a b
theorem sK.pu {c k : Nat} {I I1 : pHI} {x : Int32} (h : sK I I1) (hc : 33 ≤ c ∧ c ≤ 36) : sK I (pu I1 c k x) := by
  intro c' k' a b d e
  rw [pu_ne _ _ _ (fun q => b (by rw [q]; exact hc))]
  exact h c' k' a b d e
theorem cK.sx {I I' : pHI} {od d u : Nat} {G : Nat → pN} (h : cK I od d u G) (hx : sx 33 I I') : cK I' od d u G :=
  h.off (fun c k e => hx c k (by simp only [scF]; omega) (by omega))
theorem cK.sb {I I' : pHI} {od d u : Nat} {G : Nat → pN} (h : cK I od d u G) (hx : sb I I') : cK I' od d u G := h.sx hx.sx
theorem cS.sk {T : pN} {I I' : pHI} (h : cS 33 T I) (hb : sk I I') : cS 33 T I' := by
  obtain ⟨h1, h2, h3, h4, h5⟩ := h
  exact ⟨by rw [hb 33 _ (by decide) (by decide)]; exact h1, by rw [hb 33 _ (by decide) (by decide)]; exact h2, by rw [hb 33 _ (by decide) (by decide)]; exact h3, by rw [hb 33 _ (by decide) (by decide)]; exact h4, fun j hj => by
    rw [hb 34 _ (by decide) (by decide), hb 35 _ (by decide) (by decide), hb 36 _ (by decide) (by decide)]
    exact h5 j hj⟩
/-- the states behind one act more -/
def actG (d : Nat) (G : Nat → pN) (T : pN) : Nat → pN := fun i => if i = min (d + 1) 40 then T else if d < 40 then G i else G (i + 1)
def sM (I I' : pHI) : Prop := ∀ c k, ¬ scF c k → c ≠ 90 → c ≠ 91 → c ≠ 92 → ¬ (c = 67 ∧ (k = 48 ∨ k = 49)) → I' c k = I c k
theorem sM.rf {I : pHI} : sM I I := fun _ _ _ _ _ _ _ => rfl
theorem sM.tr {I I1 I2 : pHI} (h1 : sM I I1) (h2 : sM I1 I2) : sM I I2 := fun c k a b d e f => (h2 c k a b d e f).trans (h1 c k a b d e f)
theorem sm.sM {I I' : pHI} (h : sm I I') : sM I I' := fun c k a _ b _ _ => h c k a b
theorem sM.pu {c k : Nat} {I I1 : pHI} {x : Int32} (h : sM I I1) (hc : c = 90 ∨ c = 91 ∨ c = 92 ∨ (c = 67 ∧ (k = 48 ∨ k = 49))) : sM I (pu I1 c k x) := by
  intro c' k' a b d e f
  rw [pu_at, if_neg (fun q => by obtain ⟨rfl, rfl⟩ := q; omega)]
  exact h c' k' a b d e f
theorem sM.pz {c : Nat} {I I1 : pHI} {g : Nat → Int32} (h : sM I I1) (hc : c = 90 ∨ c = 91 ∨ c = 92) : sM I (pz I1 c g) := by
  intro c' k' a b d e f
  rw [pz_ne _ _ (by omega)]
  exact h c' k' a b d e f
/-- the model's: row i the state ahead of act i done; behind one undone -/
def mK (I : pHI) (d u : Nat) (G : Nat → pN) : Prop := I 67 48 = nI d ∧ I 67 49 = nI u ∧ d + u ≤ 40 ∧ (∀ i, i < d → ∀ q, q < 28 → I 92 (28 * i + q) = nI (G i q)) ∧ ∀ i, d ≤ i → i < d + u → ∀ q, q < 28 → I 92 (28 * i + q) = nI (G (i + 1) q)
theorem mK.off {I I' : pHI} {d u : Nat} {G : Nat → pN} (h : mK I d u G) (n : ∀ c k, c = 92 ∨ (c = 67 ∧ (k = 48 ∨ k = 49)) → I' c k = I c k) : mK I' d u G := by
  obtain ⟨h1, h2, h3, h4, h5⟩ := h
  exact ⟨by rw [n 67 48 (by omega)]; exact h1, by rw [n 67 49 (by omega)]; exact h2, h3, fun i hi q hq => by rw [n 92 _ (by omega)]; exact h4 i hi q hq, fun i hi h q hq => by rw [n 92 _ (by omega)]; exact h5 i hi h q hq⟩
theorem mK.sm {I I' : pHI} {d u : Nat} {G : Nat → pN} (h : mK I d u G) (hx : sm I I') : mK I' d u G :=
  h.off (fun c k e => hx c k (by simp only [scF]; omega) (by omega))
theorem mH.sM {H : pN} {I I' : pHI} (h : mH H I) (hb : sM I I') : mH H I' := by
  obtain ⟨h1, h2, h3, h4⟩ := h
  exact ⟨by rw [hb 67 41 (by simp [scF]) (by decide) (by decide) (by decide) (by decide)]; exact h1, by rw [hb 67 42 (by simp [scF]) (by decide) (by decide) (by decide) (by decide)]; exact h2, by rw [hb 67 23 (by simp [scF]) (by decide) (by decide) (by decide) (by decide)]; exact h3, fun j hj => by
    rw [hb 85 _ (by simp [scF]) (by decide) (by decide) (by decide) (by omega), hb 86 _ (by simp [scF]) (by decide) (by decide) (by decide) (by omega), hb 87 _ (by simp [scF]) (by decide) (by decide) (by decide) (by omega), hb 88 _ (by simp [scF]) (by decide) (by decide) (by decide) (by omega), hb 89 _ (by simp [scF]) (by decide) (by decide) (by decide) (by omega)]
    exact h4 j hj⟩
theorem mF.sM {w : Nat} {p : pP} {I I' : pHI} (h : mF w p I) (hs : sM I I') : mF w p I' := by
  obtain ⟨h1, h2, h3⟩ := h
  refine ⟨h1, ?_, fun i k m hi => ?_⟩
  · rw [hs 75 w (by simp [scF]) (by decide) (by decide) (by decide) (by omega)]
    exact h2
  · rw [hs 73 _ (by simp [scF]) (by decide) (by decide) (by decide) (by omega), hs 74 _ (by simp [scF]) (by decide) (by decide) (by decide) (by omega)]
    exact h3 i k m hi
/-- whoever is carried, or nobody -/
def cO (H : pN) (ca : Int32) (c : Option Nat) : Prop := (c = none ∧ ca = -1) ∨ ∃ i, c = some i ∧ ca = nI i ∧ i < H 1
theorem CCw.o {H T : pN} {te by_ ca ni : Int32} {j s nt : Nat} {c : Option Nat} (h : CCw H T te by_ ca ni j s nt c) : cO H ca c := by
  rcases h.2.2.2.2.2.2.1 with h | ⟨i, h1, h2, h3, -⟩
  · exact Or.inl h
  · exact Or.inr ⟨i, h1, h2, h3⟩
theorem hvN_le {H : pN} {ca : Int32} {c : Option Nat} (hr : rH H) (h : cO H ca c) : hvN H c ≤ 9 := by
  rcases h with ⟨rfl, -⟩ | ⟨i, rfl, -, hi⟩
  · exact Nat.zero_le _
  · exact (hr.2.2.2.2 i (by have := hr.2.1; omega)).2.2.1
/-- climbs and gifts as numbers -/
def seedN (T : pN) : Nat := (T 27 * 137 + 71) % 1000
def clmC (p : pP) (H T : pN) (j s nt : Nat) (c : Option Nat) : Nat := if seedN T % 100 < H (40 + j) then 0 else cntN p T s (hvN H c) nt (T 24)
def clmN (p : pP) (H T : pN) (j s nt : Nat) (c : Option Nat) : pN := walkN (up1 T 27 (seedN T)) j s (hvN H c) (clmC p H T j s nt c)
def GVw (H T : pN) (x y z : Int32) (a b m : Nat) : Prop := x = nI a ∧ a < H 1 ∧ y = nI b ∧ b < H 1 ∧ a ≠ b ∧ z = nI m ∧ 1 ≤ m ∧ m ≤ T (8 + a) ∧ T (8 + b) + m ≤ 9999
def givN (T : pN) (a b m : Nat) : pN := up1 (up1 T (8 + a) (T (8 + a) - m)) (8 + b) (T (8 + b) + m)
/-! boxes -/
def cB (c1 c2 : Nat) (I : pHI) (F : Nat → Bool) (B : Nat → pN) : Prop := ∀ b, b < 3 → I c1 b = nI (if F b = true then 1 else 0) ∧ (F b = true → ∀ q, q < 28 → I c2 (28 * b + q) = nI (B b q))
theorem cB.off {c1 c2 : Nat} {I I' : pHI} {F : Nat → Bool} {B : Nat → pN} (h : cB c1 c2 I F B) (n1 : ∀ k, I' c1 k = I c1 k) (n2 : ∀ k, I' c2 k = I c2 k) : cB c1 c2 I' F B := fun b hb => ⟨by rw [n1]; exact (h b hb).1, fun e q hq => by rw [n2]; exact (h b hb).2 e q hq⟩
