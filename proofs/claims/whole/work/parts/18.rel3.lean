/-! the model's going on: what may differ; its row; formulas told or not -/
def sm (I I' : pHI) : Prop := ∀ c k, ¬ scF c k → c ≠ 91 → I' c k = I c k
theorem sm.rf {I : pHI} : sm I I := fun _ _ _ _ => rfl
theorem sm.tr {I I1 I2 : pHI} (h1 : sm I I1) (h2 : sm I1 I2) : sm I I2 := fun c k a b => (h2 c k a b).trans (h1 c k a b)
theorem sb.sm {I I' : pHI} (h : sb I I') : sm I I' := fun c k a _ => h c k a
theorem sm.pu {k : Nat} {I I1 : pHI} {x : Int32} (h : sm I I1) : sm I (pu I1 91 k x) := by
  intro c' k' a b
  rw [pu_ne _ _ _ b]
  exact h c' k' a b
theorem mS.pu {a k v : Nat} {T : pN} {I : pHI} (h : mS a T I) : mS a (up1 T k v) (pu I a k (nI v)) := by
  intro i hi
  rw [pu_at]
  simp only [up1]
  by_cases e : i = k
  · subst e; simp
  · rw [if_neg (by omega), if_neg e]; exact h i hi
theorem mS.cg {a : Nat} {T T' : pN} {I : pHI} (h : mS a T I) (e : ∀ k, k < 28 → T k = T' k) : mS a T' I := fun k hk => by rw [← e k hk]; exact h k hk
theorem mS.sb {a : Nat} {T : pN} {I I' : pHI} (ha : a = 90 ∨ a = 91) (h : mS a T I) (hb : sb I I') : mS a T I' := fun k hk => by
  rw [hb a k (by rcases ha with rfl | rfl <;> simp [scF])]
  exact h k hk
theorem mH.off {H : pN} {I I' : pHI} (h : mH H I) (n : ∀ c k, (c = 67 ∨ (85 ≤ c ∧ c ≤ 89)) → I' c k = I c k) : mH H I' := by
  obtain ⟨h1, h2, h3, h4⟩ := h
  exact ⟨by rw [n 67 _ (by omega)]; exact h1, by rw [n 67 _ (by omega)]; exact h2, by rw [n 67 _ (by omega)]; exact h3, fun j hj => by
    rw [n 85 _ (by omega), n 86 _ (by omega), n 87 _ (by omega), n 88 _ (by omega), n 89 _ (by omega)]
    exact h4 j hj⟩
theorem mH.sm {H : pN} {I I' : pHI} (h : mH H I) (hb : sm I I') : mH H I' := h.off (fun c k a => hb c k (by simp only [scF]; omega) (by omega))
theorem mF.sm {w : Nat} {p : pP} {I I' : pHI} (h : mF w p I) (hs : sm I I') : mF w p I' := by
  obtain ⟨h1, h2, h3⟩ := h
  refine ⟨h1, ?_, fun i k m hi => ?_⟩
  · rw [hs 75 w (by simp [scF]) (by decide)]
    exact h2
  · rw [hs 73 _ (by simp [scF]) (by decide), hs 74 _ (by simp [scF]) (by decide)]
    exact h3 i k m hi
def dfl (w : Nat) : pP := if w = 0 then [(1, 0), (0, 10), (42, 0)] else [(5, 0), (0, 10), (47, 0)]
/-- the class's formula beside the model's, which may not be told -/
def fR (w : Nat) (p pc : pP) : Prop := (p = [] ∧ pc = dfl w) ∨ (p ≠ [] ∧ p = pc)
theorem fr_pull {p pc : pP} {H T : pN} (h : fR 1 p pc) : (if p = [] then nI (T 24) / nI 10 else pullV p H T (T 24)) = pullV pc H T (T 24) := by
  rcases h with ⟨rfl, rfl⟩ | ⟨h1, rfl⟩
  · rw [if_pos rfl]
    have h10 : ¬ nI 10 = 0 := by decide +kernel
    simp [pullV, dfl, ev, evs, ev1, dn, inp, h10]
  · rw [if_neg h1]
theorem fr_cnt {p pc : pP} {T : pN} {s hv nt : Nat} (h : fR 0 p pc) : clp (if p = [] then nI (10 * s) else ev p (inp (nI s) (nI hv) (nI nt) T (T 24))) 999 = cntN pc T s hv nt (T 24) := by
  rcases h with ⟨rfl, rfl⟩ | ⟨h1, rfl⟩
  · rw [if_pos rfl]
    simp [cntN, dfl, ev, evs, ev1, dn, inp, nI_mul, Nat.mul_comm]
  · rw [if_neg h1]; rfl
theorem fr_wf {w : Nat} {p pc : pP} (h : fR w p pc) (hw : p = [] ∨ wfp p 0) : wfp pc 0 := by
  rcases h with ⟨-, rfl⟩ | ⟨h1, rfl⟩
  · unfold dfl
    split <;> simp [wfp, isSg]
  · exact hw.resolve_left h1
