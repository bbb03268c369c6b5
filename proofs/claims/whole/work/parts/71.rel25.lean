/-! the next row of homes -/
theorem hL_split (h : Nat → Nat) (k : Nat) : ∀ m, hL h (k + m) = hL h k ++ hL (fun i => h (k + i)) m
  | 0 => by simp [hL]
  | m + 1 => by rw [show k + (m + 1) = k + m + 1 by omega, hL_succ, hL_split h k m, hL_succ, List.append_assoc]
theorem hL_cons (h : Nat → Nat) (m : Nat) : hL h (m + 1) = h 0 :: hL (fun i => h (i + 1)) m := by
  rw [show m + 1 = 1 + m by omega, hL_split]
  show h 0 :: _ = _
  rw [hL_ext (h := fun i => h (1 + i)) (k := fun i => h (i + 1)) (fun i _ => by rw [Nat.add_comm])]
  rfl
theorem hL_pw {R : Nat → Nat → Prop} {h : Nat → Nat} : ∀ {n : Nat}, (∀ i j, i < j → j < n → R (h i) (h j)) → (hL h n).Pairwise R
  | 0, _ => List.Pairwise.nil
  | n + 1, H => by
    rw [hL_succ, List.pairwise_append]
    refine ⟨hL_pw (fun i j a b => H i j a (by omega)), List.pairwise_singleton _ _, fun a ha b hb => ?_⟩
    obtain ⟨i, hi, rfl⟩ := hL_mem.mp ha
    rw [List.mem_singleton] at hb
    subst hb
    exact H i n hi (by omega)
def rvH (h : Nat → Nat) (lo hi m : Nat) : Nat → Nat := fun i => if (lo ≤ i ∧ i < lo + m) ∨ (hi < i + m ∧ i ≤ hi) then h (lo + hi - i) else h i
theorem rv0 (h : Nat → Nat) (lo hi : Nat) : rvH h lo hi 0 = h := by
  funext i
  unfold rvH
  rw [if_neg (by omega)]
theorem rv_s {h : Nat → Nat} {lo hi m : Nat} (hm : lo + m < hi - m) : swH (rvH h lo hi m) (lo + m) (hi - m) = rvH h lo hi (m + 1) := by
  funext i
  unfold swH rvH
  by_cases e1 : i = lo + m
  · rw [if_pos e1, if_neg (by omega), if_pos (by omega), show lo + hi - i = hi - m by omega]
  · rw [if_neg e1]
    by_cases e2 : i = hi - m
    · rw [if_pos e2, if_neg (by omega), if_pos (by omega), show lo + hi - i = lo + m by omega]
    · rw [if_neg e2]
      by_cases e3 : (lo ≤ i ∧ i < lo + m) ∨ (hi < i + m ∧ i ≤ hi)
      · rw [if_pos e3, if_pos (by omega)]
      · rw [if_neg e3, if_neg (by omega)]
theorem rv_in {h : Nat → Nat} {lo hi m i : Nat} (he : hi ≤ lo + 2 * m) (h1 : lo ≤ i) (h2 : i ≤ hi) : rvH h lo hi m i = h (lo + hi - i) := by
  unfold rvH
  by_cases e : (lo ≤ i ∧ i < lo + m) ∨ (hi < i + m ∧ i ≤ hi)
  · rw [if_pos e]
  · rw [if_neg e, show lo + hi - i = i by omega]
theorem rv_lo {h : Nat → Nat} {lo hi m i : Nat} (h1 : i < lo) (h2 : lo + m ≤ hi - m + 1) (h3 : lo ≤ hi) : rvH h lo hi m i = h i := by
  unfold rvH
  rw [if_neg (by omega)]
def NX (L L' : List Nat) : Prop := ∃ P a D b A, L = P ++ a :: D ∧ L' = P ++ b :: A ∧ D.Pairwise (· ≥ ·) ∧ A.Pairwise (· ≤ ·) ∧ a < b ∧ (∀ x, x ∈ D → x ≤ a ∨ b ≤ x) ∧ (a :: D).Perm (b :: A)
theorem nx_of {h h2 : Nat → Nat} {n k j : Nat} (hk : k < j) (hj : j < n) (hfall : ∀ i i', k < i → i < i' → i' < n → h i' ≤ h i) (hlt : h k < h j) (hge : ∀ i, j < i → i < n → h i ≤ h k) (e1 : ∀ i, i < k → h2 i = h i) (e2 : h2 k = h j) (e3 : ∀ i, k < i → i < n → h2 i = swH h k j (k + n - i)) (hp : (hL h2 n).Perm (hL h n)) : NX (hL h n) (hL h2 n) := by
  obtain ⟨m, rfl⟩ : ∃ m, n = k + (m + 1) := ⟨n - k - 1, by omega⟩
  have q1 : hL h (k + (m + 1)) = hL h k ++ h k :: hL (fun i => h (k + (i + 1))) m := by rw [hL_split, hL_cons]; rfl
  have q2 : hL h2 (k + (m + 1)) = hL h k ++ h j :: hL (fun i => h2 (k + (i + 1))) m := by
    rw [hL_split, hL_cons, hL_ext e1]
    show _ ++ h2 k :: _ = _
    rw [e2]
  rw [q1, q2] at hp ⊢
  refine ⟨_, _, _, _, _, rfl, rfl, hL_pw (fun i i' a b => hfall _ _ (by omega) (by omega) (by omega)), hL_pw (fun i i' a b => ?_), hlt, fun x hx => ?_, ((List.perm_append_left_iff _).mp hp).symm⟩
  · show h2 _ ≤ h2 _
    rw [e3 _ (by omega) (by omega), e3 _ (by omega) (by omega)]
    have sw : ∀ p, p ≠ k → swH h k j p = if p = j then h k else h p := fun p hp => by unfold swH; rw [if_neg hp]
    rw [sw _ (by omega), sw _ (by omega)]
    by_cases c1 : k + (k + (m + 1)) - (k + (i + 1)) = j
    · rw [if_pos c1]
      by_cases c2 : k + (k + (m + 1)) - (k + (i' + 1)) = j
      · rw [if_pos c2]; exact Nat.le_refl _
      · rw [if_neg c2]
        have := hfall (k + (k + (m + 1)) - (k + (i' + 1))) j (by omega) (by omega) hj
        omega
    · rw [if_neg c1]
      by_cases c2 : k + (k + (m + 1)) - (k + (i' + 1)) = j
      · rw [if_pos c2]
        exact hge _ (by omega) (by omega)
      · rw [if_neg c2]
        exact hfall _ _ (by omega) (by omega) (by omega)
  · obtain ⟨i, hi, rfl⟩ := hL_mem.mp hx
    rcases Nat.lt_trichotomy (k + (i + 1)) j with c | c | c
    · exact Or.inr (hfall _ _ (by omega) c hj)
    · exact Or.inr (by rw [← c]; exact Nat.le_refl _)
    · exact Or.inl (hge _ c (by omega))
theorem lx_tr : ∀ {A B C : List Nat}, A.length = B.length → B.length = C.length → lxL A B → lxL B C → lxL A C
  | [], _, _, _, _, _, _ => trivial
  | _ :: _, [], _, h, _, _, _ => by simp at h
  | _ :: _, _ :: _, [], _, h, _, _ => by simp at h
  | a :: A, b :: B, c :: C, h1, h2, h, k => by
    simp only [List.length_cons] at h1 h2
    simp only [lxL] at h k ⊢
    rcases h with h | ⟨rfl, h⟩
    · rcases k with k | ⟨rfl, k⟩
      · exact Or.inl (by omega)
      · exact Or.inl h
    · rcases k with k | ⟨rfl, k⟩
      · exact Or.inl k
      · exact Or.inr ⟨rfl, lx_tr (by omega) (by omega) h k⟩
/-! the least, and the first among those that have it -/
def bT (S : List Nat) (U : List Nat → Nat) (m : Nat) (V : List Nat) : Prop := (∀ K : List Nat, K.Perm S → m ≤ U K ∧ (U K = m → lxL V K)) ∧ V.Perm S ∧ m = U V
theorem bT_u {S : List Nat} {U : List Nat → Nat} {m m' : Nat} {V V' : List Nat} (h : bT S U m V) (h' : bT S U m' V') : m = m' ∧ V = V' := by
  have a := h.1 V' h'.2.1
  have b := h'.1 V h.2.1
  have e1 := h.2.2
  have e2 := h'.2.2
  obtain rfl : m = m' := by omega
  exact ⟨rfl, lx_anti (h.2.1.length_eq.trans h'.2.1.length_eq.symm) (a.2 (by omega)) (b.2 (by omega))⟩
def bB (S : List Nat) (U : List Nat → Nat) (L : List Nat) (m : Nat) (V : List Nat) : Prop := (∀ K : List Nat, K.Perm S → lxL K L → m ≤ U K ∧ (U K = m → lxL V K)) ∧ V.Perm S ∧ m = U V ∧ lxL V L
def bA (S : List Nat) (U : List Nat → Nat) (L : List Nat) (m : Nat) (V : List Nat) : Prop := (∀ K : List Nat, K.Perm S → lxL K L → K ≠ L → m ≤ U K ∧ (U K = m → lxL V K)) ∧ (m = 1000000 ∨ (V.Perm S ∧ m = U V ∧ lxL V L))
theorem bA_0 {S L : List Nat} {U : List Nat → Nat} {V : List Nat} (hL : L.Perm S) (hr : L.Pairwise (· ≤ ·)) : bA S U L 1000000 V :=
  ⟨fun K hK h ne => absurd (lx_anti (hK.length_eq.trans hL.length_eq.symm) h (lx_rise hr (hK.trans hL.symm))) ne, Or.inl rfl⟩
theorem bA_y {S L : List Nat} {U : List Nat → Nat} {m : Nat} {V : List Nat} (h : bA S U L m V) (hL : L.Perm S) (hu : U L < m) : bB S U L (U L) L := by
  refine ⟨fun K hK hl => ?_, hL, rfl, lx_rf L⟩
  by_cases e : K = L
  · subst e
    exact ⟨Nat.le_refl _, fun _ => hl⟩
  · have := h.1 K hK hl e
    exact ⟨by omega, fun q => by omega⟩
theorem bA_n {S L : List Nat} {U : List Nat → Nat} {m : Nat} {V : List Nat} (h : bA S U L m V) (hu : ¬ U L < m) (hU : U L < 1000000) : bB S U L m V := by
  rcases h.2 with q | q
  · omega
  · refine ⟨fun K hK hl => ?_, q⟩
    by_cases e : K = L
    · subst e
      exact ⟨by omega, fun _ => q.2.2⟩
    · exact h.1 K hK hl e
theorem nx_len {L L' : List Nat} (h : NX L L') : L'.Perm L ∧ lxL L L' ∧ cdL L < cdL L' ∨ ¬ (∀ x, x ∈ L → x ≤ 20) := by
  by_cases hx : ∀ x, x ∈ L → x ≤ 20
  · left
    obtain ⟨P, a, D, b, A, rfl, rfl, -, -, hab, -, hp⟩ := h
    have := hp.length_eq
    simp only [List.length_cons] at this
    exact ⟨((List.perm_append_left_iff _).mpr hp).symm, lx_up hab P, cd_up hab (by omega) (fun x q => hx x (by simp [q])) P⟩
  · exact Or.inr hx
theorem bB_next {S L L' : List Nat} {U : List Nat → Nat} {m : Nat} {V : List Nat} (h : bB S U L m V) (hL : L.Perm S) (hn : NX L L') : bA S U L' m V := by
  obtain ⟨P, a, D, b, A, rfl, rfl, hD, hA, hab, hg, hp⟩ := hn
  refine ⟨fun K hK hl ne => ?_, Or.inr ⟨h.2.1, h.2.2.1, ?_⟩⟩
  · rcases lx_next hD hA hab hg hp (hK.trans hL.symm) hl with q | q
    · exact absurd q ne
    · exact h.1 K hK q
  · have e1 := h.2.1.length_eq
    have e2 := hL.length_eq
    have e3 := hp.length_eq
    simp only [List.length_append, List.length_cons] at e2 e3
    exact lx_tr (by simp only [List.length_append, List.length_cons]; omega) (by simp only [List.length_append, List.length_cons]; omega) h.2.2.2 (lx_up hab P)
theorem bB_end {S L : List Nat} {U : List Nat → Nat} {m : Nat} {V : List Nat} (h : bB S U L m V) (hL : L.Perm S) (hf : L.Pairwise (· ≥ ·)) : bT S U m V :=
  ⟨fun K hK => h.1 K hK (lx_fall hf (hK.trans hL.symm)), h.2.1, h.2.2.1⟩
/-! how uneven the rents of a row are -/
def uH (H : pN) (h : Nat → Nat) : Nat := maxN (fun j => 30 * h j + H (32 + j)) (H 1) - minN (fun j => 30 * h j + H (32 + j)) 1000000 (H 1)
def uL (H : pN) (K : List Nat) : Nat := uH H (fun j => K.getD j 0)
theorem maxN_cg {f k : Nat → Nat} : ∀ {n : Nat}, (∀ i, i < n → f i = k i) → maxN f n = maxN k n
  | 0, _ => rfl
  | n + 1, e => by simp only [maxN]; rw [maxN_cg (fun i hi => e i (by omega)), e n (by omega)]
theorem minN_cg {f k : Nat → Nat} {B : Nat} : ∀ {n : Nat}, (∀ i, i < n → f i = k i) → minN f B n = minN k B n
  | 0, _ => rfl
  | n + 1, e => by simp only [minN]; rw [minN_cg (fun i hi => e i (by omega)), e n (by omega)]
theorem uH_cg {H : pN} {h k : Nat → Nat} (e : ∀ i, i < H 1 → h i = k i) : uH H h = uH H k := by
  unfold uH
  rw [maxN_cg (fun i hi => by rw [e i hi]), minN_cg (fun i hi => by rw [e i hi])]
theorem uL_h (H : pN) (h : Nat → Nat) : uL H (hL h (H 1)) = uH H h := uH_cg (fun i hi => by
  show ((hL h (H 1))[i]?).getD 0 = h i
  rw [hL_get hi]
  rfl)
theorem hL_gd {h : Nat → Nat} {n i : Nat} (hi : i < n) : (hL h n).getD i 0 = h i := by
  show ((hL h n)[i]?).getD 0 = h i
  rw [hL_get hi]
  rfl
