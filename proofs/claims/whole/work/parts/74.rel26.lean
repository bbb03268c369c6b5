/-! the dearest pay for the lowest storeys: no other row lies closer together -/
def wiL (lo hi : Nat) : List Nat → List Nat → Prop
  | o :: os, y :: Y => lo ≤ 30 * y + o ∧ 30 * y + o ≤ hi ∧ wiL lo hi os Y
  | _, _ => True
theorem wi_swap {lo hi o r y : Nat} {B : List Nat} (hry : r ≤ y) (hy : 30 * y + o ≤ hi) : ∀ {A os : List Nat}, os.length = (A ++ r :: B).length → (∀ c, c ∈ os → c ≤ o) → wiL lo hi os (A ++ r :: B) → lo ≤ 30 * r + o ∧ wiL lo hi os (A ++ y :: B)
  | [], [], h, _, _ => by simp at h
  | [], c :: os, _, hc, h => by
    have h1 := hc c (by simp)
    simp only [List.nil_append, wiL] at h ⊢
    exact ⟨by omega, by omega, by omega, h.2.2⟩
  | a :: A, [], h, _, _ => by simp at h
  | a :: A, c :: os, hl, hc, h => by
    simp only [List.cons_append, wiL] at h ⊢
    simp only [List.cons_append, List.length_cons] at hl
    have := wi_swap (B := B) hry hy (A := A) (os := os) (by omega) (fun z hz => hc z (by simp [hz])) h.2.2
    exact ⟨this.1, h.1, h.2.1, this.2⟩
theorem wi_rise {lo hi : Nat} : ∀ {os R Y : List Nat}, os.Pairwise (· ≥ ·) → R.Pairwise (· ≤ ·) → os.length = R.length → Y.Perm R → wiL lo hi os Y → wiL lo hi os R
  | [], _, _, _, _, _, _, _ => by simp [wiL]
  | _ :: _, [], _, _, _, _, _, _ => by simp [wiL]
  | _ :: _, _ :: _, [], _, _, _, h, _ => by have := h.length_eq; simp at this
  | o :: os, r :: R, y :: Y, ho, hR, hl, hp, h => by
    have ho2 := List.pairwise_cons.mp ho
    have hR2 := List.pairwise_cons.mp hR
    simp only [List.length_cons] at hl
    simp only [wiL] at h ⊢
    by_cases e : y = r
    · subst e
      exact ⟨h.1, h.2.1, wi_rise ho2.2 hR2.2 (by omega) (List.Perm.cons_inv hp) h.2.2⟩
    · have hr : r ∈ Y := by
        have : r ∈ y :: Y := hp.mem_iff.mpr (by simp)
        rcases List.mem_cons.mp this with q | q
        · exact absurd q.symm e
        · exact q
      have hy : y ∈ R := by
        have : y ∈ r :: R := hp.mem_iff.mp (by simp)
        rcases List.mem_cons.mp this with q | q
        · exact absurd q e
        · exact q
      have hry := hR2.1 y hy
      obtain ⟨A, B, rfl⟩ := List.append_of_mem hr
      have hlen := hp.length_eq
      simp only [List.length_cons] at hlen
      have s := wi_swap (lo := lo) hry h.2.1 (A := A) (B := B) (os := os) (by omega) (fun c hc => ho2.1 c hc) h.2.2
      refine ⟨s.1, by omega, wi_rise ho2.2 hR2.2 (by omega) ?_ s.2⟩
      have p1 : (y :: (A ++ r :: B)).Perm (r :: (A ++ y :: B)) := by
        have q1 : (A ++ r :: B).Perm (r :: (A ++ B)) := List.perm_middle
        have q2 : (A ++ y :: B).Perm (y :: (A ++ B)) := List.perm_middle
        exact (q1.cons y).trans ((List.Perm.swap r y (A ++ B)).trans (q2.symm.cons r))
      exact List.Perm.cons_inv (p1.symm.trans hp)
