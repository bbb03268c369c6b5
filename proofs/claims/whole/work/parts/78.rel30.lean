/-! the row that is settled is the first of the least -/
theorem lx_of : ∀ {n : Nat} {gv M : Nat → Nat}, ((∃ j, j < n ∧ (∀ a, a < j → M a = gv a) ∧ gv j < M j) ∨ (∀ a, a < n → M a = gv a)) → lxL (hL gv n) (hL M n)
  | 0, _, _, _ => trivial
  | n + 1, gv, M, h => by
    rw [hL_cons, hL_cons]
    simp only [lxL]
    rcases h with ⟨j, a, b, c⟩ | q
    · cases j with
      | zero => exact Or.inl c
      | succ j => exact Or.inr ⟨(b 0 (by omega)).symm, lx_of (Or.inl ⟨j, by omega, fun z hz => b (z + 1) (by omega), c⟩)⟩
    · exact Or.inr ⟨(q 0 (by omega)).symm, lx_of (Or.inr (fun a ha => q (a + 1) (by omega)))⟩
theorem lI_0 {H : pN} {os : List Nat} {s gv : Nat → Nat} : lI H os s gv (fun _ => false) (dS H os s gv (fun _ => false) 0) 0 := by
  refine ⟨?_, Nat.le_refl _, fun M _ _ => Or.inr (fun a ha => absurd ha (by omega))⟩
  rw [rm_all]
  exact List.Perm.refl _
theorem lI_end {H : pN} {os : List Nat} {s gv gv0 : Nat → Nat} {tk : Nat → Bool} (hc : lC H os s) (h0 : 0 < H 1) (h : lI H os s gv tk (dS H os s gv0 (fun _ => false) 0) (H 1)) : bT (hL s (H 1)) (uL H) (dS H os s gv0 (fun _ => false) 0) (hL gv (H 1)) := by
  have lo : ∀ M : Nat → Nat, (hL M (H 1)).Perm (hL s (H 1)) → dS H os s gv0 (fun _ => false) 0 ≤ uH H M := fun M hM =>
    dC_le hc.2.1 (lC_m hc) (rm_rise hc.2.2.1) (fun a _ c => absurd c (by omega)) (fT_perm (gv := gv0) (Nat.zero_le _) hc.1 (fun a c => absurd c (by omega)) (by rw [rm_all]; exact hM)) (lC_b hc hM)
  have hp : (hL gv (H 1)).Perm (hL s (H 1)) := by
    have e := h.1.length_eq
    rw [List.length_append, hL_len, hL_len] at e
    have e2 : rmL s tk (H 1) = [] := List.eq_nil_of_length_eq_zero (by omega)
    have := h.1
    rwa [e2, List.append_nil] at this
  obtain ⟨K, k1, k2, k3⟩ := lX hc (Nat.le_refl _) h0 h.1
  have e3 : uH H gv = uH H K := uH_cg (fun i hi => (k2 i hi).symm)
  have h2 := h.2.1
  refine ⟨fun L hL2 => ?_, hp, ?_⟩
  · have el : L.length = H 1 := hL2.length_eq.trans (hL_len _ _)
    have eL := hL_of el
    rw [← eL] at hL2 ⊢
    rw [uL_h]
    exact ⟨lo _ hL2, fun q => lx_of (h.2.2 _ hL2 (by omega))⟩
  · rw [uL_h]
    have := lo gv hp
    omega
theorem bT_pm {S S' : List Nat} {U : List Nat → Nat} {m : Nat} {V : List Nat} (hp : S.Perm S') (h : bT S U m V) : bT S' U m V :=
  ⟨fun K hK => h.1 K (hK.trans hp.symm), h.2.1.trans hp, h.2.2⟩
