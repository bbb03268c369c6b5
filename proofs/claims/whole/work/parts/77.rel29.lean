/-! settling one tenant after the other -/
def upT (gv : Nat → Nat) (t v : Nat) : Nat → Nat := fun a => if a = t then v else gv a
theorem upT_lo {gv : Nat → Nat} {t v a : Nat} (h : a < t) : upT gv t v a = gv a := by unfold upT; rw [if_neg (by omega)]
theorem upT_at {gv : Nat → Nat} {t v : Nat} : upT gv t v t = v := by unfold upT; rw [if_pos rfl]
def lC (H : pN) (os : List Nat) (s : Nat → Nat) : Prop := os.Perm (List.range (H 1)) ∧ (os.map (fun a => H (32 + a))).Pairwise (· ≥ ·) ∧ (∀ i j, i < j → j < H 1 → s i ≤ s j) ∧ (∀ i, i < H 1 → s i ≤ 20) ∧ (∀ i, i < H 1 → H (32 + i) ≤ 999)
def dS (H : pN) (os : List Nat) (s gv : Nat → Nat) (tk : Nat → Bool) (t : Nat) : Nat := dC t gv (fun a => H (32 + a)) os (rmL s tk (H 1))
theorem lC_b {H : pN} {os : List Nat} {s M : Nat → Nat} (hc : lC H os s) (hM : (hL M (H 1)).Perm (hL s (H 1))) : ∀ a, a < H 1 → frH H M a ≤ 1599 := fun a ha => by
  have : M a ∈ hL s (H 1) := hM.mem_iff.mp (hL_mem.mpr ⟨a, ha, rfl⟩)
  obtain ⟨i, hi, e⟩ := hL_mem.mp this
  have h1 := hc.2.2.2.1 i hi
  have h2 := hc.2.2.2.2 a ha
  unfold frH
  omega
theorem lC_m {H : pN} {os : List Nat} {s : Nat → Nat} (hc : lC H os s) (a : Nat) : a ∈ os ↔ a < H 1 := by
  rw [hc.1.mem_iff, List.mem_range]
theorem lQ {H : pN} {os : List Nat} {s gv M : Nat → Nat} {tk : Nat → Bool} {t least : Nat} (hc : lC H os s) (ht : t < H 1) (hP : (hL gv t ++ rmL s tk (H 1)).Perm (hL s (H 1))) (hM : (hL M (H 1)).Perm (hL s (H 1))) (ha : ∀ a, a < t → M a = gv a) (hu : uH H M ≤ least) : ∃ i, i < H 1 ∧ tk i = false ∧ s i = M t ∧ dS H os s (upT gv t (s i)) (tkS tk i) (t + 1) ≤ least := by
  have p1 := fT_perm (Nat.le_of_lt ht) hc.1 ha (hM.trans hP.symm)
  have h1 : M t ∈ rmL s tk (H 1) := p1.mem_iff.mp (List.mem_map.mpr ⟨t, List.mem_filter.mpr ⟨(lC_m hc t).mpr ht, by simp⟩, rfl⟩)
  obtain ⟨i, hi, hf, e⟩ := rm_mem.mp h1
  refine ⟨i, hi, hf, e, Nat.le_trans ?_ hu⟩
  have ha2 : ∀ a, a < t + 1 → M a = upT gv t (s i) a := fun a hq => by
    by_cases c : a = t
    · subst c; rw [upT_at, e]
    · rw [upT_lo (by omega)]; exact ha a (by omega)
  have p2 : (hL M (H 1)).Perm (hL (upT gv t (s i)) (t + 1) ++ rmL s (tkS tk i) (H 1)) := by
    rw [hL_succ, upT_at, hL_ext (h := upT gv t (s i)) (k := gv) (fun a hq => upT_lo hq), List.append_assoc]
    exact (hM.trans hP.symm).trans ((List.perm_append_left_iff _).mpr (rm_take hf hi))
  exact dC_le hc.2.1 (lC_m hc) (rm_rise hc.2.2.1) (fun a _ c => ha2 a c) (fT_perm (by omega) hc.1 ha2 p2) (lC_b hc hM)
def lI (H : pN) (os : List Nat) (s gv : Nat → Nat) (tk : Nat → Bool) (least t : Nat) : Prop := (hL gv t ++ rmL s tk (H 1)).Perm (hL s (H 1)) ∧ dS H os s gv tk t ≤ least ∧ ∀ M : Nat → Nat, (hL M (H 1)).Perm (hL s (H 1)) → uH H M ≤ least → (∃ j, j < t ∧ (∀ a, a < j → M a = gv a) ∧ gv j < M j) ∨ (∀ a, a < t → M a = gv a)
theorem fT_len {H : pN} {os : List Nat} {s gv : Nat → Nat} {tk : Nat → Bool} {t : Nat} (hc : lC H os s) (ht : t ≤ H 1) (hP : (hL gv t ++ rmL s tk (H 1)).Perm (hL s (H 1))) : (fT t os).length = (rmL s tk (H 1)).length := by
  have p1 : (fT t os).Perm (fT t (List.range (H 1))) := List.Perm.filter _ hc.1
  have e1 := p1.length_eq
  have e2 := hP.length_eq
  obtain ⟨m, hm⟩ : ∃ m, H 1 = t + m := ⟨H 1 - t, by omega⟩
  rw [hm, fT_range, List.length_map, List.length_range] at e1
  rw [List.length_append, hL_len, hL_len] at e2
  omega
/-- the row dealt out is one of those that keep what is settled -/
theorem lX {H : pN} {os : List Nat} {s gv : Nat → Nat} {tk : Nat → Bool} {t : Nat} (hc : lC H os s) (ht : t ≤ H 1) (h0 : 0 < H 1) (hP : (hL gv t ++ rmL s tk (H 1)).Perm (hL s (H 1))) : ∃ K : Nat → Nat, (hL K (H 1)).Perm (hL s (H 1)) ∧ (∀ a, a < t → K a = gv a) ∧ uH H K = dS H os s gv tk t := by
  have hnd : os.Nodup := hc.1.nodup_iff.mpr List.nodup_range
  have hl := fT_len hc ht hP
  have g1 := (gK_L (t := t) (gv := gv) (ow := fun a => H (32 + a)) hnd hl).1
  have ha : ∀ a, a < t → gK t gv os (rmL s tk (H 1)) a = gv a := fun a q => gK_y q
  have hp := (fT_permR ht hc.1 ha (by rw [g1])).trans hP
  exact ⟨_, hp, ha, (dC_ex hnd (lC_m hc) hl h0 (lC_b hc hp)).2⟩
theorem lI_ex {H : pN} {os : List Nat} {s gv : Nat → Nat} {tk : Nat → Bool} {t least : Nat} (hc : lC H os s) (ht : t < H 1) (h : lI H os s gv tk least t) : ∃ i, i < H 1 ∧ tk i = false ∧ dS H os s (upT gv t (s i)) (tkS tk i) (t + 1) ≤ least := by
  obtain ⟨K, k1, k2, k3⟩ := lX hc (Nat.le_of_lt ht) (by omega) h.1
  obtain ⟨i, a, b, -, d⟩ := lQ hc ht h.1 k1 k2 (by rw [k3]; exact h.2.1)
  exact ⟨i, a, b, d⟩
theorem lI_st {H : pN} {os : List Nat} {s gv : Nat → Nat} {tk : Nat → Bool} {t least i : Nat} (hc : lC H os s) (ht : t < H 1) (h : lI H os s gv tk least t) (hi : i < H 1) (hf : tk i = false) (hd : dS H os s (upT gv t (s i)) (tkS tk i) (t + 1) ≤ least) (hn : ∀ k, k < i → tk k = false → ¬ dS H os s (upT gv t (s k)) (tkS tk k) (t + 1) ≤ least) : lI H os s (upT gv t (s i)) (tkS tk i) least (t + 1) := by
  refine ⟨?_, hd, fun M hM hu => ?_⟩
  · rw [hL_succ, upT_at, hL_ext (h := upT gv t (s i)) (k := gv) (fun a hq => upT_lo hq), List.append_assoc]
    exact ((List.perm_append_left_iff _).mpr (rm_take hf hi)).symm.trans h.1
  · rcases h.2.2 M hM hu with ⟨j, a, b, c⟩ | q
    · exact Or.inl ⟨j, by omega, fun z hz => by rw [upT_lo (by omega)]; exact b z hz, by rw [upT_lo a]; exact c⟩
    · obtain ⟨k, k1, k2, k3, k4⟩ := lQ hc ht h.1 hM q hu
      have hik : s i ≤ M t := by
        rw [← k3]
        rcases Nat.lt_trichotomy k i with z | z | z
        · exact absurd k4 (hn k z k2)
        · rw [z]; exact Nat.le_refl _
        · exact hc.2.2.1 i k z k1
      rcases Nat.lt_or_ge (s i) (M t) with z | z
      · exact Or.inl ⟨t, by omega, fun a ha => by rw [upT_lo ha]; exact q a ha, by rw [upT_at]; exact z⟩
      · refine Or.inr (fun a ha => ?_)
        by_cases c : a = t
        · subst c; rw [upT_at]; omega
        · rw [upT_lo (by omega)]; exact q a (by omega)
