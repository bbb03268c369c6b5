/-! what a row costs when the rest is dealt out in order -/
def aC (t : Nat) (gv ow : Nat → Nat) : List Nat → List Nat → List Nat
  | [], _ => []
  | a :: os, R => if a < t then (30 * gv a + ow a) :: aC t gv ow os R else (30 * R.headD 0 + ow a) :: aC t gv ow os R.tail
def fT (t : Nat) (os : List Nat) : List Nat := os.filter (fun a => decide (t ≤ a))
theorem fT_y {t a : Nat} {os : List Nat} (h : a < t) : fT t (a :: os) = fT t os := by
  unfold fT
  rw [List.filter_cons_of_neg (by simp; omega)]
theorem fT_n {t a : Nat} {os : List Nat} (h : ¬ a < t) : fT t (a :: os) = a :: fT t os := by
  unfold fT
  rw [List.filter_cons_of_pos (by simp; omega)]
theorem aC_in {t lo hi : Nat} {gv ow : Nat → Nat} : ∀ {os R : List Nat}, (fT t os).length = R.length → (∀ a, a ∈ os → a < t → lo ≤ 30 * gv a + ow a ∧ 30 * gv a + ow a ≤ hi) → wiL lo hi ((fT t os).map ow) R → ∀ x, x ∈ aC t gv ow os R → lo ≤ x ∧ x ≤ hi
  | [], _, _, _, _, x, hx => by simp [aC] at hx
  | a :: os, R, hl, hg, hw, x, hx => by
    by_cases c : a < t
    · rw [fT_y c] at hl hw
      simp only [aC, if_pos c, List.mem_cons] at hx
      rcases hx with rfl | hx
      · exact hg a (by simp) c
      · exact aC_in hl (fun b hb => hg b (by simp [hb])) hw x hx
    · rw [fT_n c] at hl hw
      cases R with
      | nil => simp at hl
      | cons r R =>
        simp only [List.length_cons] at hl
        simp only [List.map_cons, wiL] at hw
        simp only [aC, if_neg c, List.mem_cons, List.headD_cons, List.tail_cons] at hx
        rcases hx with rfl | hx
        · exact ⟨hw.1, hw.2.1⟩
        · exact aC_in (by omega) (fun b hb => hg b (by simp [hb])) hw.2.2 x hx
theorem wi_K {lo hi : Nat} {K ow : Nat → Nat} : ∀ {L : List Nat}, (∀ a, a ∈ L → lo ≤ 30 * K a + ow a ∧ 30 * K a + ow a ≤ hi) → wiL lo hi (L.map ow) (L.map K)
  | [], _ => by simp [wiL]
  | a :: L, h => by
    have := h a (by simp)
    simp only [List.map_cons, wiL]
    exact ⟨this.1, this.2, wi_K (fun b hb => h b (by simp [hb]))⟩
/-- whatever a row pays, the row dealt out in order pays within the same bounds -/
theorem aC_le {t lo hi : Nat} {gv ow K : Nat → Nat} {os R : List Nat} (ho : (os.map ow).Pairwise (· ≥ ·)) (hR : R.Pairwise (· ≤ ·)) (hK : ∀ a, a ∈ os → a < t → K a = gv a) (hp : ((fT t os).map K).Perm R) (hb : ∀ a, a ∈ os → lo ≤ 30 * K a + ow a ∧ 30 * K a + ow a ≤ hi) : ∀ x, x ∈ aC t gv ow os R → lo ≤ x ∧ x ≤ hi := by
  have hl := hp.length_eq
  rw [List.length_map] at hl
  have hs : ((fT t os).map ow).Sublist (os.map ow) := List.Sublist.map _ List.filter_sublist
  have hw : wiL lo hi ((fT t os).map ow) ((fT t os).map K) := wi_K (fun a ha => hb a (List.mem_filter.mp ha).1)
  exact aC_in hl (fun a ha c => by have := hb a ha; rw [hK a ha c] at this; exact this) (wi_rise (ho.sublist hs) hR (by rw [List.length_map]; exact hl) hp hw)
/-- the row that is dealt out -/
def gK (t : Nat) (gv : Nat → Nat) : List Nat → List Nat → Nat → Nat
  | [], _ => gv
  | a :: os, R => fun x => if x = a then (if a < t then gv a else R.headD 0) else gK t gv os (if a < t then R else R.tail) x
theorem gK_y {t : Nat} {gv : Nat → Nat} : ∀ {os R : List Nat} {x : Nat}, x < t → gK t gv os R x = gv x
  | [], _, _, _ => rfl
  | a :: os, R, x, h => by
    simp only [gK]
    by_cases e : x = a
    · subst e; rw [if_pos rfl, if_pos h]
    · rw [if_neg e]; exact gK_y h
theorem gK_L {t : Nat} {gv ow : Nat → Nat} : ∀ {os R : List Nat}, os.Nodup → (fT t os).length = R.length → (fT t os).map (gK t gv os R) = R ∧ aC t gv ow os R = os.map (fun a => 30 * gK t gv os R a + ow a)
  | [], R, _, h => by
    cases R with
    | nil => exact ⟨rfl, rfl⟩
    | cons r R => simp [fT] at h
  | a :: os, R, hn, hl => by
    have hn2 := List.nodup_cons.mp hn
    have hne : ∀ x, x ∈ os → x ≠ a := fun x hx e => hn2.1 (e ▸ hx)
    by_cases c : a < t
    · rw [fT_y c] at hl ⊢
      obtain ⟨h1, h2⟩ := gK_L (gv := gv) (ow := ow) hn2.2 hl
      have e1 : ∀ x, x ∈ os → gK t gv (a :: os) R x = gK t gv os R x := fun x hx => by simp only [gK]; rw [if_neg (hne x hx), if_pos c]
      refine ⟨?_, ?_⟩
      · rw [List.map_congr_left (l := fT t os) (fun x hx => e1 x (List.mem_filter.mp hx).1)]
        exact h1
      · simp only [aC, if_pos c, List.map_cons]
        have e2 : List.map (fun b => 30 * gK t gv (a :: os) R b + ow b) os = List.map (fun b => 30 * gK t gv os R b + ow b) os := List.map_congr_left (fun x hx => by rw [e1 x hx])
        rw [h2, e2, gK_y c]
    · rw [fT_n c] at hl ⊢
      cases R with
      | nil => simp at hl
      | cons r R =>
        simp only [List.length_cons] at hl
        obtain ⟨h1, h2⟩ := gK_L (t := t) (gv := gv) (ow := ow) (R := R) hn2.2 (by omega)
        have e1 : ∀ x, x ∈ os → gK t gv (a :: os) (r :: R) x = gK t gv os R x := fun x hx => by simp only [gK]; rw [if_neg (hne x hx), if_neg c]; rfl
        have e0 : gK t gv (a :: os) (r :: R) a = r := by
          show (if a = a then (if a < t then gv a else (r :: R).headD 0) else _) = r
          rw [if_pos rfl, if_neg c]
          rfl
        refine ⟨?_, ?_⟩
        · rw [List.map_cons, e0, List.map_congr_left (l := fT t os) (fun x hx => e1 x (List.mem_filter.mp hx).1), h1]
        · simp only [aC, if_neg c, List.map_cons, List.headD_cons, List.tail_cons]
          have e2 : List.map (fun b => 30 * gK t gv (a :: os) (r :: R) b + ow b) os = List.map (fun b => 30 * gK t gv os R b + ow b) os := List.map_congr_left (fun x hx => by rw [e1 x hx])
          rw [h2, e0, e2]
/-! the greatest and the least of a row -/
def gxL : List Nat → Nat := List.foldl max 0
def gnL : List Nat → Nat := List.foldl min 1599
theorem mx_f : ∀ (L : List Nat) (a : Nat), a ≤ L.foldl max a ∧ (∀ x, x ∈ L → x ≤ L.foldl max a) ∧ (∀ b, a ≤ b → (∀ x, x ∈ L → x ≤ b) → L.foldl max a ≤ b)
  | [], a => ⟨Nat.le_refl _, fun x hx => by simp at hx, fun b h _ => h⟩
  | y :: L, a => by
    have ih := mx_f L (max a y)
    simp only [List.foldl_cons]
    refine ⟨by have := ih.1; omega, fun x hx => ?_, fun b hb h => ih.2.2 b (Nat.max_le.mpr ⟨hb, h y (by simp)⟩) (fun x hx => h x (by simp [hx]))⟩
    rcases List.mem_cons.mp hx with rfl | hx
    · have := ih.1; omega
    · exact ih.2.1 x hx
theorem mn_f : ∀ (L : List Nat) (a : Nat), L.foldl min a ≤ a ∧ (∀ x, x ∈ L → L.foldl min a ≤ x) ∧ (∀ b, b ≤ a → (∀ x, x ∈ L → b ≤ x) → b ≤ L.foldl min a)
  | [], a => ⟨Nat.le_refl _, fun x hx => by simp at hx, fun b h _ => h⟩
  | y :: L, a => by
    have ih := mn_f L (min a y)
    simp only [List.foldl_cons]
    refine ⟨by have := ih.1; omega, fun x hx => ?_, fun b hb h => ih.2.2 b (Nat.le_min.mpr ⟨hb, h y (by simp)⟩) (fun x hx => h x (by simp [hx]))⟩
    rcases List.mem_cons.mp hx with rfl | hx
    · have := ih.1; omega
    · exact ih.2.1 x hx
/-- what difference answers -/
def dC (t : Nat) (gv ow : Nat → Nat) (os R : List Nat) : Nat := (aC t gv ow os R).foldl max 0 - (aC t gv ow os R).foldl min 1599
theorem maxN_ge {f : Nat → Nat} : ∀ {n i : Nat}, i < n → f i ≤ maxN f n
  | 0, _, h => by omega
  | n + 1, i, h => by
    simp only [maxN]
    by_cases e : i = n
    · subst e; omega
    · have := maxN_ge (f := f) (show i < n by omega); omega
theorem minN_lb {f : Nat → Nat} {B : Nat} : ∀ {n i : Nat}, i < n → minN f B n ≤ f i
  | 0, _, h => by omega
  | n + 1, i, h => by
    simp only [minN]
    by_cases e : i = n
    · subst e; omega
    · have := minN_lb (f := f) (B := B) (show i < n by omega); omega
theorem minN_gl {f : Nat → Nat} {B b : Nat} : ∀ {n : Nat}, b ≤ B → (∀ i, i < n → b ≤ f i) → b ≤ minN f B n
  | 0, h, _ => h
  | n + 1, h, k => Nat.le_min.mpr ⟨minN_gl h (fun i hi => k i (by omega)), k n (by omega)⟩
def frH (H : pN) (h : Nat → Nat) (j : Nat) : Nat := 30 * h j + H (32 + j)
theorem dC_le {H : pN} {t : Nat} {gv K : Nat → Nat} {os R : List Nat} (ho : (os.map (fun a => H (32 + a))).Pairwise (· ≥ ·)) (hm : ∀ a, a ∈ os ↔ a < H 1) (hR : R.Pairwise (· ≤ ·)) (hK : ∀ a, a < H 1 → a < t → K a = gv a) (hp : ((fT t os).map K).Perm R) (hb : ∀ a, a < H 1 → frH H K a ≤ 1599) : dC t gv (fun a => H (32 + a)) os R ≤ uH H K := by
  have h := aC_le (lo := minN (frH H K) 1599 (H 1)) (hi := maxN (frH H K) (H 1)) (gv := gv) (K := K) ho hR (fun a ha c => hK a ((hm a).mp ha) c) hp (fun a ha => ⟨minN_lb (f := frH H K) ((hm a).mp ha), maxN_ge (f := frH H K) ((hm a).mp ha)⟩)
  have h1 := (mx_f (aC t gv (fun a => H (32 + a)) os R) 0).2.2 (maxN (frH H K) (H 1)) (Nat.zero_le _) (fun x hx => (h x hx).2)
  have h2 := (mn_f (aC t gv (fun a => H (32 + a)) os R) 1599).2.2 (minN (frH H K) 1599 (H 1)) (minN_le _ _ _) (fun x hx => (h x hx).1)
  unfold dC uH
  show _ ≤ maxN (frH H K) (H 1) - minN (frH H K) 1000000 (H 1)
  rcases Nat.eq_zero_or_pos (H 1) with e | e
  · rw [e] at h1 ⊢
    simp only [maxN] at h1 ⊢
    omega
  · rw [minN_eq (C := 1599) (H 1) (fun j hj => ⟨by have := hb j hj; omega, hb j hj⟩) e]
    omega
theorem dC_ex {H : pN} {t : Nat} {gv : Nat → Nat} {os R : List Nat} (hn : os.Nodup) (hm : ∀ a, a ∈ os ↔ a < H 1) (hl : (fT t os).length = R.length) (h0 : 0 < H 1) (hb : ∀ a, a < H 1 → frH H (gK t gv os R) a ≤ 1599) : (fT t os).map (gK t gv os R) = R ∧ uH H (gK t gv os R) = dC t gv (fun a => H (32 + a)) os R := by
  obtain ⟨h1, h2⟩ := gK_L (gv := gv) (ow := fun a => H (32 + a)) hn hl
  refine ⟨h1, ?_⟩
  unfold dC uH
  rw [h2]
  show maxN (frH H (gK t gv os R)) (H 1) - minN (frH H (gK t gv os R)) 1000000 (H 1) = List.foldl max 0 (os.map (frH H (gK t gv os R))) - List.foldl min 1599 (os.map (frH H (gK t gv os R)))
  have a1 := mx_f (os.map (frH H (gK t gv os R))) 0
  have a2 := mn_f (os.map (frH H (gK t gv os R))) 1599
  have hi : ∀ x, x ∈ os.map (frH H (gK t gv os R)) ↔ ∃ a, a < H 1 ∧ frH H (gK t gv os R) a = x := fun x => by
    rw [List.mem_map]
    exact ⟨fun ⟨a, p, q⟩ => ⟨a, (hm a).mp p, q⟩, fun ⟨a, p, q⟩ => ⟨a, (hm a).mpr p, q⟩⟩
  rw [minN_eq (C := 1599) (H 1) (fun j hj => ⟨by have := hb j hj; omega, hb j hj⟩) h0]
  have b1 : List.foldl max 0 (os.map (frH H (gK t gv os R))) = maxN (frH H (gK t gv os R)) (H 1) := by
    apply Nat.le_antisymm
    · exact a1.2.2 _ (Nat.zero_le _) (fun x hx => by obtain ⟨a, p, q⟩ := (hi x).mp hx; rw [← q]; exact maxN_ge p)
    · exact maxN_le _ (fun j hj => a1.2.1 _ ((hi _).mpr ⟨j, hj, rfl⟩))
  have b2 : List.foldl min 1599 (os.map (frH H (gK t gv os R))) = minN (frH H (gK t gv os R)) 1599 (H 1) := by
    apply Nat.le_antisymm
    · exact minN_gl a2.1 (fun j hj => a2.2.1 _ ((hi _).mpr ⟨j, hj, rfl⟩))
    · exact a2.2.2 _ (minN_le _ _ _) (fun x hx => by obtain ⟨a, p, q⟩ := (hi x).mp hx; rw [← q]; exact minN_lb p)
  rw [b1, b2]
