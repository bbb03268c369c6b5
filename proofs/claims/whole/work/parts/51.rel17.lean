/-! the model's rows of who could serve whom -/
def mC (I : pHI) (n : Nat) (C : Nat → Nat → Bool) (pr : Nat → Nat) : Prop := ∀ a, a < n → I 97 a = nI (pr a) ∧ ∀ b, b < n → I 98 (8 * a + b) = nI (C a b).toNat
def mT (I : pHI) (n : Nat) (C : Nat → Nat → Bool) (pr : Nat → Nat) (t : Nat) : Prop := ∀ s, s < 256 → I 95 (256 * t + s) = nI (btN C pr n t s).1 ∧ I 96 (256 * t + s) = nI (btN C pr n t s).2
/-- what laying the doers may write -/
def sD (I I' : pHI) : Prop := ∀ c k, c ≠ 95 → c ≠ 96 → I' c k = I c k
theorem sD.rf {I : pHI} : sD I I := fun _ _ _ _ => rfl
theorem sD.tr {I I1 I2 : pHI} (h1 : sD I I1) (h2 : sD I1 I2) : sD I I2 := fun c k a b => (h2 c k a b).trans (h1 c k a b)
theorem sD.pu {I I1 : pHI} {c k : Nat} {x : Int32} (h : sD I I1) (hc : c = 95 ∨ c = 96) : sD I (pu I1 c k x) := fun c' k' a b => by
  rw [pu_ne _ _ _ (by omega)]; exact h c' k' a b
theorem sD.sz {I I' : pHI} (h : sD I I') : sz I I' := fun c k _ b => h c k (fun e => b (by subst e; simp [scM])) (fun e => b (by subst e; simp [scM]))
theorem mC.sD {I I' : pHI} {n : Nat} {C : Nat → Nat → Bool} {pr : Nat → Nat} (h : mC I n C pr) (f : sD I I') : mC I' n C pr := fun a ha => ⟨by rw [f 97 _ (by decide) (by decide)]; exact (h a ha).1, fun b hb => by rw [f 98 _ (by decide) (by decide)]; exact (h a ha).2 b hb⟩
theorem toN0 {b : Bool} (h : b.toNat = 0) : ¬ b = true := by cases b <;> simp_all
theorem toN1 {b : Bool} (h : 0 < b.toNat) : b = true := by cases b <;> simp_all
theorem bt_b {C : Nat → Nat → Bool} {pr : Nat → Nat} {n t : Nat} (hp : ∀ t, t < n → pr t ≤ 20) (h8 : n ≤ 8) (s : Nat) : (btN C pr n t s).1 ≤ 8 ∧ (btN C pr n t s).2 ≤ 160 := by
  have := bt_ok (C := C) (t := t) hp h8 s
  have h1 := this.1
  have h2 := this.2
  exact ⟨h1, by omega⟩
theorem bs_b {C : Nat → Nat → Bool} {pr : Nat → Nat} {n t s : Nat} (hp : ∀ t, t < n → pr t ≤ 20) (h8 : n ≤ 8) (ht : t < n) (b : Nat) : (bsF C pr (btN C pr n (t + 1)) t s b).1 ≤ 9 ∧ (bsF C pr (btN C pr n (t + 1)) t s b).2 ≤ 180 := by
  have := bsF_ok (C := C) (nx := btN C pr n (t + 1)) (hp t ht) (fun s => bt_ok (C := C) (t := t + 1) hp h8 s) s b
  have h1 := this.1
  have h2 := this.2
  exact ⟨by omega, by omega⟩
theorem ch_no {C : Nat → Nat → Bool} {pr : Nat → Nat} {n t s b : Nat} (h : ¬ (C t b = true ∧ bitN s b = 0 ∧ (btN C pr n (t + 1) (addB s b)).1 + 1 = (btN C pr n t s).1 ∧ (btN C pr n (t + 1) (addB s b)).2 + pr t = (btN C pr n t s).2)) : ¬ chP C pr n t s b = true := fun q => by
  obtain ⟨q1, q2, q3⟩ := of_decide_eq_true q
  exact h ⟨q1, q2, by rw [← q3]; rfl, by rw [← q3]; rfl⟩
theorem ch_yes {C : Nat → Nat → Bool} {pr : Nat → Nat} {n t s b : Nat} (h1 : C t b = true) (h2 : bitN s b = 0) (h3 : (btN C pr n (t + 1) (addB s b)).1 + 1 = (btN C pr n t s).1) (h4 : (btN C pr n (t + 1) (addB s b)).2 + pr t = (btN C pr n t s).2) : chP C pr n t s b = true :=
  decide_eq_true ⟨h1, h2, Prod.ext h3 h4⟩
