/-! the storeys that are still free -/
def rmL (s : Nat → Nat) (tk : Nat → Bool) : Nat → List Nat
  | 0 => []
  | n + 1 => rmL s tk n ++ (if tk n = true then [] else [s n])
theorem rm_cg {s : Nat → Nat} {tk tk' : Nat → Bool} : ∀ {n : Nat}, (∀ i, i < n → tk i = tk' i) → rmL s tk n = rmL s tk' n
  | 0, _ => rfl
  | n + 1, e => by simp only [rmL]; rw [rm_cg (fun i hi => e i (by omega)), e n (by omega)]
theorem rm_mem {s : Nat → Nat} {tk : Nat → Bool} {v : Nat} : ∀ {n : Nat}, v ∈ rmL s tk n ↔ ∃ i, i < n ∧ tk i = false ∧ s i = v
  | 0 => by simp [rmL]
  | n + 1 => by
    simp only [rmL, List.mem_append, rm_mem (n := n)]
    constructor
    · rintro (⟨i, a, b, c⟩ | h)
      · exact ⟨i, by omega, b, c⟩
      · by_cases e : tk n = true
        · rw [if_pos e] at h; simp at h
        · rw [if_neg e, List.mem_singleton] at h
          exact ⟨n, by omega, by simpa using e, h.symm⟩
    · rintro ⟨i, a, b, c⟩
      by_cases q : i = n
      · subst q
        right
        rw [if_neg (by rw [b]; decide), List.mem_singleton]
        exact c.symm
      · exact Or.inl ⟨i, by omega, b, c⟩
theorem rm_rise {s : Nat → Nat} {tk : Nat → Bool} : ∀ {n : Nat}, (∀ i j, i < j → j < n → s i ≤ s j) → (rmL s tk n).Pairwise (· ≤ ·)
  | 0, _ => List.Pairwise.nil
  | n + 1, h => by
    simp only [rmL]
    rw [List.pairwise_append]
    refine ⟨rm_rise (fun i j a b => h i j a (by omega)), ?_, fun a ha b hb => ?_⟩
    · split
      · exact List.Pairwise.nil
      · exact List.pairwise_singleton _ _
    · obtain ⟨i, hi, -, rfl⟩ := rm_mem.mp ha
      split at hb
      · simp at hb
      · rw [List.mem_singleton] at hb
        subst hb
        exact h i n hi (by omega)
def tkS (tk : Nat → Bool) (i : Nat) : Nat → Bool := fun j => if j = i then true else tk j
theorem rm_take {s : Nat → Nat} {tk : Nat → Bool} {i : Nat} (ht : tk i = false) : ∀ {n : Nat}, i < n → (rmL s tk n).Perm (s i :: rmL s (tkS tk i) n)
  | 0, h => by omega
  | n + 1, h => by
    simp only [rmL]
    by_cases e : i = n
    · subst e
      rw [if_neg (by rw [ht]; decide), show tkS tk i i = true by simp [tkS], if_pos rfl, List.append_nil, rm_cg (tk' := tkS tk i) (fun j hj => by simp only [tkS]; rw [if_neg (by omega)])]
      exact List.perm_append_singleton _ _
    · have := (rm_take (s := s) ht (show i < n by omega)).append_right (if tk n = true then [] else [s n])
      rw [show tkS tk i n = tk n by simp only [tkS]; rw [if_neg (by omega)]]
      exact this
theorem rm_all {s : Nat → Nat} : ∀ n, rmL s (fun _ => false) n = hL s n
  | 0 => rfl
  | n + 1 => by rw [hL_succ, ← rm_all n]; rfl
theorem fT_range (t : Nat) : ∀ m, fT t (List.range (t + m)) = (List.range m).map (fun i => t + i) := fun m => by
  unfold fT
  rw [List.range_add, List.filter_append, List.filter_eq_nil_iff.mpr (fun a ha => by have := List.mem_range.mp ha; simp; omega), List.nil_append, List.filter_eq_self.mpr (fun a ha => by obtain ⟨z, -, rfl⟩ := List.mem_map.mp ha; simp)]
/-- a row that keeps what is settled has the free storeys for the rest -/
theorem fT_perm {t n : Nat} {K gv : Nat → Nat} {os R : List Nat} (ht : t ≤ n) (ho : os.Perm (List.range n)) (hK : ∀ a, a < t → K a = gv a) (hp : (hL K n).Perm (hL gv t ++ R)) : ((fT t os).map K).Perm R := by
  obtain ⟨m, rfl⟩ : ∃ m, n = t + m := ⟨n - t, by omega⟩
  have p1 : (fT t os).Perm (fT t (List.range (t + m))) := List.Perm.filter _ ho
  have p2 := p1.map K
  rw [fT_range, List.map_map] at p2
  rw [hL_split, hL_ext hK] at hp
  exact p2.trans ((List.perm_append_left_iff _).mp hp)
theorem fT_permR {t n : Nat} {K gv : Nat → Nat} {os R : List Nat} (ht : t ≤ n) (ho : os.Perm (List.range n)) (hK : ∀ a, a < t → K a = gv a) (hp : ((fT t os).map K).Perm R) : (hL K n).Perm (hL gv t ++ R) := by
  obtain ⟨m, rfl⟩ : ∃ m, n = t + m := ⟨n - t, by omega⟩
  have p1 : (fT t os).Perm (fT t (List.range (t + m))) := List.Perm.filter _ ho
  have p2 := p1.map K
  rw [fT_range, List.map_map] at p2
  rw [hL_split, hL_ext hK]
  exact (List.perm_append_left_iff _).mpr (p2.symm.trans hp)
