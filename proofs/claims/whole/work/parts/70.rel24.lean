/-! who lives where: rows of storeys and their order -/
def hL (h : Nat → Nat) (n : Nat) : List Nat := (List.range n).map h
theorem hL_len (h : Nat → Nat) (n : Nat) : (hL h n).length = n := by simp [hL]
theorem hL_succ (h : Nat → Nat) (n : Nat) : hL h (n + 1) = hL h n ++ [h n] := by simp [hL, List.range_succ]
theorem hL_get {h : Nat → Nat} {n i : Nat} (hi : i < n) : (hL h n)[i]? = some (h i) := by simp [hL, hi]
theorem hL_ext {h k : Nat → Nat} : ∀ {n : Nat}, (∀ i, i < n → h i = k i) → hL h n = hL k n
  | 0, _ => rfl
  | n + 1, e => by rw [hL_succ, hL_succ, hL_ext (fun i hi => e i (by omega)), e n (by omega)]
theorem hL_inj {h k : Nat → Nat} {n : Nat} (e : hL h n = hL k n) : ∀ i, i < n → h i = k i := fun i hi => by
  have h1 := hL_get (h := h) hi
  have h2 := hL_get (h := k) hi
  rw [e, h2] at h1
  exact (Option.some.inj h1).symm
theorem hL_mem {h : Nat → Nat} {n v : Nat} : v ∈ hL h n ↔ ∃ i, i < n ∧ h i = v := by simp [hL]
/-- a list as a function -/
theorem hL_of {n : Nat} {L : List Nat} (hl : L.length = n) : hL (fun i => L.getD i 0) n = L := by
  apply List.ext_getElem?
  intro i
  by_cases hi : i < n
  · rw [hL_get hi]
    show some ((L[i]?).getD 0) = L[i]?
    rw [List.getElem?_eq_getElem (by omega)]
    rfl
  · rw [List.getElem?_eq_none (by rw [hL_len]; omega), List.getElem?_eq_none (by omega)]
def cnE (h : Nat → Nat) (v n : Nat) : Nat := cntP (fun x => decide (h x = v)) n
theorem hL_cnt (h : Nat → Nat) (v : Nat) : ∀ n, (hL h n).count v = cnE h v n
  | 0 => rfl
  | n + 1 => by
    rw [hL_succ, List.count_append, hL_cnt h v n]
    show _ = cntP (fun x => decide (h x = v)) n + (if decide (h n = v) = true then 1 else 0)
    rw [List.count_singleton]
    simp [cnE]
theorem hL_perm {h k : Nat → Nat} {n : Nat} : (hL h n).Perm (hL k n) ↔ ∀ v, cnE h v n = cnE k v n := by
  rw [List.perm_iff_count]
  exact ⟨fun e v => by rw [← hL_cnt, ← hL_cnt]; exact e v, fun e v => by rw [hL_cnt, hL_cnt]; exact e v⟩
theorem cnE_succ (h : Nat → Nat) (v n : Nat) : cnE h v (n + 1) = cnE h v n + (if h n = v then 1 else 0) := by
  show cntP (fun x => decide (h x = v)) n + (if decide (h n = v) = true then 1 else 0) = _
  simp [cnE]
theorem cnE_cg {h k : Nat → Nat} {v : Nat} : ∀ {n : Nat}, (∀ i, i < n → h i = k i) → cnE h v n = cnE k v n
  | 0, _ => rfl
  | n + 1, e => by rw [cnE_succ, cnE_succ, cnE_cg (fun i hi => e i (by omega)), e n (by omega)]
theorem cnE_upd {h k : Nat → Nat} {a v : Nat} : ∀ {n : Nat}, a < n → (∀ i, i ≠ a → k i = h i) → cnE k v n + (if h a = v then 1 else 0) = cnE h v n + (if k a = v then 1 else 0)
  | 0, hn, _ => by omega
  | n + 1, hn, e => by
    rw [cnE_succ, cnE_succ]
    by_cases c : a = n
    · subst c
      rw [cnE_cg (h := k) (k := h) (fun i hi => e i (by omega))]
      omega
    · have ih := cnE_upd (v := v) (show a < n by omega) e
      rw [e n (fun q => c q.symm)]
      omega
theorem sw_perm {h : Nat → Nat} {a b n : Nat} (ha : a < n) (hb : b < n) : (hL (swH h a b) n).Perm (hL h n) := by
  rw [hL_perm]
  intro v
  by_cases e : a = b
  · subst e
    exact cnE_cg (fun i _ => by unfold swH; split; (rename_i q; rw [q]); rfl)
  · have h1 := cnE_upd (h := h) (k := fun i => if i = a then h b else h i) (v := v) ha (fun i hi => by simp [hi])
    have h2 := cnE_upd (h := fun i => if i = a then h b else h i) (k := swH h a b) (v := v) hb (fun i hi => by simp [swH, hi])
    have e1 : swH h a b b = h a := by unfold swH; rw [if_neg (Ne.symm e), if_pos rfl]
    simp only [if_pos] at h1
    rw [e1] at h2
    rw [if_neg (Ne.symm e)] at h2
    omega
/-- one put in at a place -/
def insH (h : Nat → Nat) (p v : Nat) : Nat → Nat := fun i => if i < p then h i else if i = p then v else h (i - 1)
theorem ins_cnt {h : Nat → Nat} {p v w : Nat} : ∀ {n : Nat}, p ≤ n → cnE (insH h p v) w (n + 1) = cnE h w n + (if v = w then 1 else 0)
  | 0, hp => by
    obtain rfl : p = 0 := by omega
    rw [cnE_succ]
    simp [insH, cnE, cntP]
  | n + 1, hp => by
    rw [cnE_succ]
    by_cases c : p = n + 1
    · subst c
      rw [cnE_cg (h := insH h (n + 1) v) (k := h) (fun i hi => by simp [insH, hi])]
      simp [insH]
    · rw [ins_cnt (show p ≤ n by omega), cnE_succ h w n]
      have : insH h p v (n + 1) = h n := by unfold insH; rw [if_neg (by omega), if_neg (by omega)]; rfl
      rw [this]
      omega
/-! the order of rows, once more -/
theorem lx_total : ∀ {A B : List Nat}, A.length = B.length → lxL A B ∨ lxL B A
  | [], [], _ => Or.inl trivial
  | [], _ :: _, h => by simp at h
  | _ :: _, [], h => by simp at h
  | s :: A, t :: B, h => by
    simp only [List.length_cons] at h
    simp only [lxL]
    rcases Nat.lt_trichotomy s t with c | c | c
    · exact Or.inl (Or.inl c)
    · rcases lx_total (A := A) (B := B) (by omega) with q | q
      · exact Or.inl (Or.inr ⟨c, q⟩)
      · exact Or.inr (Or.inr ⟨c.symm, q⟩)
    · exact Or.inr (Or.inl c)
theorem lx_fall : ∀ {D E : List Nat}, D.Pairwise (· ≥ ·) → E.Perm D → lxL E D
  | [], E, _, h => by rw [List.perm_nil.mp h]; exact trivial
  | d :: D, E, hD, h => by
    cases E with
    | nil => have := h.length_eq; simp at this
    | cons e E =>
      have he : e ∈ d :: D := h.mem_iff.mp (by simp)
      have h2 := List.pairwise_cons.mp hD
      have hle : e ≤ d := by
        rcases List.mem_cons.mp he with q | q
        · omega
        · exact h2.1 e q
      rcases Nat.lt_or_ge e d with c | c
      · exact Or.inl c
      · obtain rfl : e = d := by omega
        exact Or.inr ⟨rfl, lx_fall h2.2 (List.Perm.cons_inv h)⟩
theorem lx_rise : ∀ {A E : List Nat}, A.Pairwise (· ≤ ·) → E.Perm A → lxL A E
  | [], E, _, _ => trivial
  | d :: D, E, hD, h => by
    cases E with
    | nil => have := h.length_eq; simp at this
    | cons e E =>
      have he : e ∈ d :: D := h.mem_iff.mp (by simp)
      have h2 := List.pairwise_cons.mp hD
      have hle : d ≤ e := by
        rcases List.mem_cons.mp he with q | q
        · omega
        · exact h2.1 e q
      rcases Nat.lt_or_ge d e with c | c
      · exact Or.inl c
      · obtain rfl : e = d := by omega
        exact Or.inr ⟨rfl, lx_rise h2.2 (List.Perm.cons_inv h)⟩
/-- nothing lies between a row and the next one -/
theorem lx_next {a b : Nat} {D A : List Nat} (hD : D.Pairwise (· ≥ ·)) (hA : A.Pairwise (· ≤ ·)) (hab : a < b) (hgap : ∀ x, x ∈ D → x ≤ a ∨ b ≤ x) (hp : (a :: D).Perm (b :: A)) : ∀ {P K : List Nat}, K.Perm (P ++ a :: D) → lxL K (P ++ b :: A) → K = P ++ b :: A ∨ lxL K (P ++ a :: D)
  | [], K, hK, hl => by
    cases K with
    | nil => have := hK.length_eq; simp at this
    | cons c E =>
      simp only [List.nil_append] at hK hl ⊢
      simp only [lxL] at hl
      have hc : c ∈ a :: D := hK.mem_iff.mp (by simp)
      rcases hl with hl | ⟨rfl, hl⟩
      · right
        rcases List.mem_cons.mp hc with q | q
        · subst q
          exact Or.inr ⟨rfl, lx_fall hD (List.Perm.cons_inv hK)⟩
        · rcases hgap c q with z | z
          · rcases Nat.lt_or_ge c a with y | y
            · exact Or.inl y
            · obtain rfl : c = a := by omega
              exact Or.inr ⟨rfl, lx_fall hD (List.Perm.cons_inv hK)⟩
          · omega
      · left
        have hE : E.Perm A := List.Perm.cons_inv (hK.trans hp)
        rw [lx_anti hE.length_eq hl (lx_rise hA hE)]
  | p :: P, K, hK, hl => by
    cases K with
    | nil => have := hK.length_eq; simp at this
    | cons c E =>
      simp only [List.cons_append] at hK hl ⊢
      simp only [lxL] at hl ⊢
      rcases hl with hl | ⟨rfl, hl⟩
      · exact Or.inr (Or.inl hl)
      · rcases lx_next hD hA hab hgap hp (List.Perm.cons_inv hK) hl with q | q
        · left; rw [q]
        · exact Or.inr (Or.inr ⟨rfl, q⟩)
theorem lx_up {a b : Nat} {D A : List Nat} (hab : a < b) : ∀ P : List Nat, lxL (P ++ a :: D) (P ++ b :: A)
  | [] => Or.inl hab
  | _ :: P => Or.inr ⟨rfl, lx_up hab P⟩
/-- a row as a number -/
def cdL : List Nat → Nat
  | [] => 0
  | s :: L => s * 21 ^ L.length + cdL L
theorem cd_lt : ∀ {L : List Nat}, (∀ x, x ∈ L → x ≤ 20) → cdL L < 21 ^ L.length
  | [], _ => by simp [cdL]
  | s :: L, h => by
    have h1 := cd_lt (L := L) (fun x hx => h x (by simp [hx]))
    have h2 := h s (by simp)
    simp only [cdL, List.length_cons]
    rw [Nat.pow_succ]
    have : s * 21 ^ L.length ≤ 20 * 21 ^ L.length := Nat.mul_le_mul_right _ h2
    omega
theorem cd_up {a b : Nat} {D A : List Nat} (hab : a < b) (hl : D.length = A.length) (hD : ∀ x, x ∈ D → x ≤ 20) : ∀ P : List Nat, cdL (P ++ a :: D) < cdL (P ++ b :: A)
  | [] => by
    simp only [List.nil_append, cdL]
    have h1 := cd_lt hD
    have : (a + 1) * 21 ^ D.length ≤ b * 21 ^ D.length := Nat.mul_le_mul_right _ hab
    rw [hl] at this h1 ⊢
    rw [Nat.add_mul] at this
    omega
  | p :: P => by
    simp only [List.cons_append, cdL]
    have := cd_up hab hl hD P
    have e : (P ++ a :: D).length = (P ++ b :: A).length := by simp [hl]
    rw [e]
    omega
