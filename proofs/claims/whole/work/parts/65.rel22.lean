/-! the model's climbs on end -/
theorem cnt_cg {p : pP} {T T1 : pN} {s b : Nat} (h25 : T1 25 = T 25) (h26 : T1 26 = T 26) (h24 : T1 24 = T 24 + b) : cntN p T1 s 0 0 (T1 24) = gC p T s b := by
  unfold cntN gC cntN
  rw [h24]
  have : inp (nI s) (nI 0) (nI 0) T1 (T 24 + b) = inp (nI s) (nI 0) (nI 0) T (T 24 + b) := by
    funext i
    simp only [inp, h25, h26]
  rw [this]
theorem up24 (T : pN) (v k : Nat) : up1 T 24 v k = if k = 24 then v else T k := rfl
def upF (n br b : Nat) (L : List Nat) : Prop := okL n L ∧ b + smL L ≤ br
def niL (n br b j : Nat) (L : List Nat) : Prop := L = [] ∨ nxL (upF n br) b br j L
theorem ni_1 {n br b : Nat} {f : List Nat → Nat} (hf : f [] = 0) : isM (niL n br b 1) f (some 0) := by
  refine ⟨⟨[], Or.inl rfl, hf⟩, fun L hL => ?_⟩
  rcases hL with rfl | ⟨s, L0, h1, h2, h3, _⟩
  · rw [hf]; exact Nat.le_refl _
  · omega
theorem ni_step {n br b j : Nat} (hj : 1 ≤ j) (hs : b + j ≤ br) (L : List Nat) : niL n br b (j + 1) L ↔ niL n br b j L ∨ ∃ L0, L = j :: L0 ∧ upF n br (b + j) L0 := by
  unfold niL
  rw [nx_step hj hs]
  exact or_assoc.symm
theorem ni_put {p : pP} {T : pN} {n br b j x y : Nat} (hj : 1 ≤ j) (hs : b + j ≤ br) (h : isM (niL n br b j) (vlL (gC p T) b) (some x)) (hx : isM (upF n br (b + j)) (vlL (gC p T) (b + j)) (some y)) : isM (niL n br b (j + 1)) (vlL (gC p T) b) (some (max x (gC p T j b + y))) := by
  obtain ⟨⟨L1, a1, a2⟩, a3⟩ := hx
  refine isM_step (o := some x) h (B := fun L => ∃ L0, L = j :: L0 ∧ upF n br (b + j) L0) ⟨j :: L1, ⟨L1, rfl, a1⟩, ?_⟩ (fun L hL => ?_) (ni_step hj hs)
  · simp only [vlL]; rw [a2]
  · obtain ⟨L0, rfl, h2⟩ := hL
    have := a3 L0 h2
    simp only [vlL]
    omega
theorem ni_all {n br b j : Nat} (hb : b ≤ br) (h : j = n + 1 ∨ (br < b + j ∧ j ≤ n + 1)) (L : List Nat) : upF n br b L ↔ niL n br b j L := by
  constructor
  · rintro ⟨h1, h2⟩
    cases L with
    | nil => exact Or.inl rfl
    | cons s L0 =>
      have h3 := okL_cons.mp h1
      simp only [smL] at h2
      exact Or.inr ⟨s, L0, rfl, h3.1.1, by omega, by omega, h3.2, by omega⟩
  · rintro (rfl | ⟨s, L0, rfl, h2, h3, h4, h5, h6⟩)
    · exact ⟨okL_nil n, by simp only [smL]; omega⟩
    · exact ⟨okL_cons.mpr ⟨⟨h2, by omega⟩, h5⟩, by simp only [smL]; omega⟩
theorem up_lad {p : pP} {H T : pN} {a x y : Nat} (h20 : H 0 ≤ 20) (h1 : isM (upL (lgN H T a) (T a)) (vlL (gC p T) 0) (some x)) (h2 : isM (upF (H 0) (T a) 0) (vlL (gC p T) 0) (some y)) : x = y := by
  refine isM_uniq h1 (isM_cg h2 (fun L => ⟨fun h => ⟨ok_up (by unfold lgN; omega) h.1, by have := h.2; omega⟩, fun h => ?_⟩))
  have h3 := h.2
  exact ⟨ok_lg h20 h.1 (by omega), by omega⟩
/-- the best of the first j rows of so many climbs -/
def bsT (p : pP) (H T : pN) (a c j : Nat) (o : Option (List Nat)) : Prop := match o with
  | none => ∀ d, d < j → ¬ fwV p H T a (dgL (H 0) c d)
  | some K => (fwV p H T a K ∧ ∃ d, d < j ∧ K = dgL (H 0) c d) ∧ ∀ d, d < j → fwV p H T a (dgL (H 0) c d) → smL K ≤ smL (dgL (H 0) c d) ∧ (smL (dgL (H 0) c d) = smL K → lxL K (dgL (H 0) c d))
def lsT : Option (List Nat) → Nat
  | none => 1000000
  | some K => smL K
theorem bs_0 (p : pP) (H T : pN) (a c : Nat) : bsT p H T a c 0 none := fun d hd => absurd hd (Nat.not_lt_zero _)
theorem bs_skip {p : pP} {H T : pN} {a c j : Nat} {o : Option (List Nat)} (hn : 1 ≤ H 0) (hj : j < H 0 ^ c) (h : bsT p H T a c j o) (hv : fwV p H T a (dgL (H 0) c j) → lsT o ≤ smL (dgL (H 0) c j)) (hT : T a ≤ 40) : bsT p H T a c (j + 1) o := by
  cases o with
  | none =>
    intro d hd hf
    by_cases e : d = j
    · subst e
      have := hf.2.1
      have h3 : (1000000 : Nat) ≤ smL (dgL (H 0) c d) := hv hf
      omega
    · exact h d (by omega) hf
  | some K =>
    obtain ⟨⟨h1, d0, h2, h3⟩, h4⟩ := h
    refine ⟨⟨h1, d0, by omega, h3⟩, fun d hd hf => ?_⟩
    by_cases e : d = j
    · subst e
      refine ⟨hv hf, fun _ => ?_⟩
      rw [h3]
      exact dg_mono hn c (by omega) hj (by omega)
    · exact h4 d (by omega) hf
theorem bs_new {p : pP} {H T : pN} {a c j : Nat} {o : Option (List Nat)} (h : bsT p H T a c j o) (hv : fwV p H T a (dgL (H 0) c j)) (hl : smL (dgL (H 0) c j) < lsT o) : bsT p H T a c (j + 1) (some (dgL (H 0) c j)) := by
  refine ⟨⟨hv, j, by omega, rfl⟩, fun d hd hf => ?_⟩
  by_cases e : d = j
  · subst e; exact ⟨Nat.le_refl _, fun _ => lx_rf _⟩
  · cases o with
    | none => exact absurd hf (h d (by omega))
    | some K =>
      have := (h.2 d (by omega) hf).1
      simp only [lsT] at hl
      exact ⟨by omega, fun q => by omega⟩
theorem bs_none {p : pP} {H T : pN} {a c : Nat} (hn : 1 ≤ H 0) (h : bsT p H T a c (H 0 ^ c) none) : ∀ L, L.length = c → ¬ fwV p H T a L := fun L hL hf => by
  obtain ⟨d, d1, d2⟩ := dg_all hn c L hL hf.1
  exact h d d1 (by rw [d2]; exact hf)
theorem bs_some {p : pP} {H T : pN} {a c : Nat} {K : List Nat} (hn : 1 ≤ H 0) (hc : c ≤ 4) (h : bsT p H T a c (H 0 ^ c) (some K)) (hno : ∀ L, L.length < c → ¬ fwV p H T a L) : fwB p H T a K ∧ K.length = c := by
  obtain ⟨⟨h1, d0, h2, h3⟩, h4⟩ := h
  have hl : K.length = c := by rw [h3, dg_len]
  refine ⟨⟨⟨by omega, h1⟩, fun L hL => ?_, fun L hL e => ?_, fun L hL e q => ?_⟩, hl⟩
  · rcases Nat.lt_or_ge L.length K.length with q | q
    · exact absurd hL (hno L (by omega))
    · exact q
  · obtain ⟨d, d1, d2⟩ := dg_all hn c L (by omega) hL.1
    have := (h4 d d1 (by rw [d2]; exact hL)).1
    rw [d2] at this
    exact this
  · obtain ⟨d, d1, d2⟩ := dg_all hn c L (by omega) hL.1
    have := (h4 d d1 (by rw [d2]; exact hL)).2
    rw [d2] at this
    exact this q
theorem walk_at {T : pN} {a s c : Nat} (ha : a < 8) : walkN T a s 0 c 24 = T 24 + s ∧ walkN T a s 0 c 25 = T 25 ∧ walkN T a s 0 c 26 = T 26 ∧ walkN T a s 0 c (8 + a) = min 9999 (T (8 + a) + c) ∧ walkN T a s 0 c (16 + a) = T (16 + a) ∧ walkN T a s 0 c a = T a - s := by
  simp only [walkN, up1, brN0]
  refine ⟨by rw [if_pos trivial], by rw [if_neg (by omega), if_neg (by omega), if_neg (by omega)], by rw [if_neg (by omega), if_neg (by omega), if_neg (by omega)], ?_, by rw [if_neg (by omega), if_neg (by omega), if_neg (by omega)], by rw [if_neg (by omega), if_pos trivial]⟩
  rw [if_neg (by omega), if_neg (by omega), if_pos trivial]
