/-! who serves whom -/
def isMr (a b : Nat × Nat) : Bool := decide (b.1 < a.1 ∨ (a.1 = b.1 ∧ a.2 < b.2))
def cdN (pr : Nat → Nat) (nx : Nat → Nat × Nat) (t set b : Nat) : Nat × Nat := ((nx (addB set b)).1 + 1, (nx (addB set b)).2 + pr t)
def bsF (C : Nat → Nat → Bool) (pr : Nat → Nat) (nx : Nat → Nat × Nat) (t set : Nat) : Nat → Nat × Nat
  | 0 => nx set
  | b + 1 => if C t b = true ∧ bitN set b = 0 ∧ isMr (cdN pr nx t set b) (bsF C pr nx t set b) = true then cdN pr nx t set b else bsF C pr nx t set b
def bst (C : Nat → Nat → Bool) (pr : Nat → Nat) (n : Nat) : Nat → Nat → Nat × Nat
  | 0 => fun _ => (0, 0)
  | k + 1 => fun set => bsF C pr (bst C pr n k) (n - (k + 1)) set n
def btN (C : Nat → Nat → Bool) (pr : Nat → Nat) (n t : Nat) : Nat → Nat × Nat := bst C pr n (n - t)
theorem bt_end (C : Nat → Nat → Bool) (pr : Nat → Nat) (n set : Nat) : btN C pr n n set = (0, 0) := by
  unfold btN
  rw [Nat.sub_self]
  rfl
theorem bt_step (C : Nat → Nat → Bool) (pr : Nat → Nat) {n t : Nat} (set : Nat) (ht : t < n) : btN C pr n t set = bsF C pr (btN C pr n (t + 1)) t set n := by
  unfold btN
  obtain ⟨k, hk⟩ : ∃ k, n - t = k + 1 := ⟨n - t - 1, by omega⟩
  rw [hk, show n - (t + 1) = k by omega]
  simp only [bst]
  rw [show n - (k + 1) = t by omega]
def okP (m : Nat) (q : Nat × Nat) : Prop := q.1 ≤ m ∧ q.2 ≤ 20 * q.1
theorem bsF_ok {C : Nat → Nat → Bool} {pr : Nat → Nat} {nx : Nat → Nat × Nat} {t m : Nat} (hp : pr t ≤ 20) (hn : ∀ s, okP m (nx s)) (set : Nat) : ∀ b, okP (m + 1) (bsF C pr nx t set b)
  | 0 => ⟨Nat.le_succ_of_le (hn set).1, (hn set).2⟩
  | b + 1 => by
    simp only [bsF]
    split
    · have := hn (addB set b)
      exact ⟨by simp only [cdN]; have := this.1; omega, by simp only [cdN]; have := this.2; omega⟩
    · exact bsF_ok hp hn set b
theorem bst_ok {C : Nat → Nat → Bool} {pr : Nat → Nat} {n : Nat} (hp : ∀ t, t < n → pr t ≤ 20) : ∀ k, k ≤ n → ∀ s, okP k (bst C pr n k s)
  | 0, _, _ => ⟨Nat.le_refl _, Nat.le_refl _⟩
  | k + 1, hk, s => bsF_ok (hp _ (by omega)) (bst_ok hp k (by omega)) s n
theorem bt_ok {C : Nat → Nat → Bool} {pr : Nat → Nat} {n t : Nat} (hp : ∀ t, t < n → pr t ≤ 20) (h8 : n ≤ 8) (s : Nat) : okP 8 (btN C pr n t s) := by
  have := bst_ok (C := C) hp (n - t) (by omega) s
  exact ⟨Nat.le_trans this.1 (by omega), this.2⟩
def vl (q : Nat × Nat) : Nat := 1000 * q.1 - q.2
theorem vl_le {q : Nat × Nat} {m : Nat} (h : okP m q) : vl q ≤ 1000 * m := by have := h.1; unfold vl; omega
theorem vl_cd {pr : Nat → Nat} {nx : Nat → Nat × Nat} {t set b : Nat} (hp : pr t ≤ 20) (h : okP 8 (nx (addB set b))) : 1000 - pr t + vl (nx (addB set b)) = vl (cdN pr nx t set b) := by
  obtain ⟨h1, h2⟩ := h
  simp only [vl, cdN]
  omega
theorem vl_more {a b : Nat × Nat} (ha : okP 9 a) (hb : okP 9 b) (h : isMr a b = true) : max (vl b) (vl a) = vl a := by
  obtain ⟨a1, a2⟩ := ha
  obtain ⟨b1, b2⟩ := hb
  have h := of_decide_eq_true h
  unfold vl
  omega
theorem vl_less {a b : Nat × Nat} (ha : okP 9 a) (hb : okP 9 b) (h : ¬ isMr a b = true) : max (vl b) (vl a) = vl b := by
  obtain ⟨a1, a2⟩ := ha
  obtain ⟨b1, b2⟩ := hb
  have h : ¬ (b.1 < a.1 ∨ (a.1 = b.1 ∧ a.2 < b.2)) := fun q => h (decide_eq_true q)
  unfold vl
  omega
theorem vl_eq {a b : Nat × Nat} (ha : okP 9 a) (hb : okP 9 b) : vl a = vl b ↔ a = b := by
  obtain ⟨a1, a2⟩ := ha
  obtain ⟨b1, b2⟩ := hb
  constructor
  · intro h
    unfold vl at h
    exact Prod.ext (by omega) (by omega)
  · intro h; rw [h]
theorem okP_up {q : Nat × Nat} (h : okP 8 q) : okP 9 q := ⟨Nat.le_succ_of_le h.1, h.2⟩
theorem cd_ok {pr : Nat → Nat} {nx : Nat → Nat × Nat} {t set b : Nat} (hp : pr t ≤ 20) (h : okP 8 (nx (addB set b))) : okP 9 (cdN pr nx t set b) := ⟨by have := h.1; simp only [cdN]; omega, by have := h.2; simp only [cdN]; omega⟩
theorem bs_y {C : Nat → Nat → Bool} {pr : Nat → Nat} {nx : Nat → Nat × Nat} {t set b : Nat} (h1 : C t b = true) (h2 : bitN set b = 0) (h3 : isMr (cdN pr nx t set b) (bsF C pr nx t set b) = true) : bsF C pr nx t set (b + 1) = cdN pr nx t set b := by simp only [bsF]; rw [if_pos ⟨h1, h2, h3⟩]
theorem bs_n {C : Nat → Nat → Bool} {pr : Nat → Nat} {nx : Nat → Nat × Nat} {t set b : Nat} (h : ¬ (C t b = true ∧ bitN set b = 0 ∧ isMr (cdN pr nx t set b) (bsF C pr nx t set b) = true)) : bsF C pr nx t set (b + 1) = bsF C pr nx t set b := by simp only [bsF]; rw [if_neg h]
theorem bs_or {C : Nat → Nat → Bool} {pr : Nat → Nat} {nx : Nat → Nat × Nat} {t set : Nat} : ∀ b, bsF C pr nx t set b = nx set ∨ ∃ i, i < b ∧ C t i = true ∧ bitN set i = 0 ∧ bsF C pr nx t set b = cdN pr nx t set i
  | 0 => Or.inl rfl
  | b + 1 => by
    by_cases h : C t b = true ∧ bitN set b = 0 ∧ isMr (cdN pr nx t set b) (bsF C pr nx t set b) = true
    · exact Or.inr ⟨b, by omega, h.1, h.2.1, bs_y h.1 h.2.1 h.2.2⟩
    · rw [bs_n h]
      rcases bs_or (C := C) (pr := pr) (nx := nx) (t := t) (set := set) b with e | ⟨i, h1, h2⟩
      · exact Or.inl e
      · exact Or.inr ⟨i, by omega, h2⟩
/-- who is chosen: the set of those who serve already, and who serves the next -/
def chP (C : Nat → Nat → Bool) (pr : Nat → Nat) (n t set b : Nat) : Bool := decide (C t b = true ∧ bitN set b = 0 ∧ cdN pr (btN C pr n (t + 1)) t set b = btN C pr n t set)
def chB (C : Nat → Nat → Bool) (pr : Nat → Nat) (n t set : Nat) : Option Nat := fstN (chP C pr n t set) n n
def chS (C : Nat → Nat → Bool) (pr : Nat → Nat) (n : Nat) : Nat → Nat
  | 0 => 0
  | t + 1 => match chB C pr n t (chS C pr n t) with
    | none => chS C pr n t
    | some b => addB (chS C pr n t) b
def chN (C : Nat → Nat → Bool) (pr : Nat → Nat) (n t : Nat) : Option Nat := chB C pr n t (chS C pr n t)
theorem chS_none {C : Nat → Nat → Bool} {pr : Nat → Nat} {n t : Nat} (h : chN C pr n t = none) : chS C pr n (t + 1) = chS C pr n t := by
  simp only [chS]
  rw [show chB C pr n t (chS C pr n t) = none from h]
theorem chS_some {C : Nat → Nat → Bool} {pr : Nat → Nat} {n t b : Nat} (h : chN C pr n t = some b) : chS C pr n (t + 1) = addB (chS C pr n t) b := by
  simp only [chS]
  rw [show chB C pr n t (chS C pr n t) = some b from h]
theorem ch_some {C : Nat → Nat → Bool} {pr : Nat → Nat} {n t b : Nat} (h : chN C pr n t = some b) : b < n ∧ C t b = true ∧ bitN (chS C pr n t) b = 0 ∧ cdN pr (btN C pr n (t + 1)) t (chS C pr n t) b = btN C pr n t (chS C pr n t) := by
  obtain ⟨h1, h2⟩ := fst_some (Nat.le_refl _) h
  exact ⟨h1, of_decide_eq_true h2⟩
theorem ch_none {C : Nat → Nat → Bool} {pr : Nat → Nat} {n t : Nat} (ht : t < n) (h : chN C pr n t = none) : btN C pr n t (chS C pr n t) = btN C pr n (t + 1) (chS C pr n t) := by
  have h1 := fst_none (Nat.le_refl _) h
  rw [bt_step _ _ _ ht]
  rcases bs_or (C := C) (pr := pr) (nx := btN C pr n (t + 1)) (t := t) (set := chS C pr n t) n with e | ⟨i, i1, i2, i3, i4⟩
  · exact e
  · have h2 := h1 i (by omega) i1
    have h3 := of_decide_eq_false h2
    exact absurd ⟨i2, i3, by rw [bt_step _ _ _ ht]; exact i4.symm⟩ h3
def isSm (o : Option Nat) : Bool := o.isSome
def prO (pr : Nat → Nat) (C : Nat → Nat → Bool) (n t : Nat) : Nat := if isSm (chN C pr n t) = true then pr t else 0
theorem ch_sum {C : Nat → Nat → Bool} {pr : Nat → Nat} {n : Nat} : ∀ t, t ≤ n → btN C pr n 0 0 = (cntP (fun i => isSm (chN C pr n i)) t + (btN C pr n t (chS C pr n t)).1, sumN (prO pr C n) t + (btN C pr n t (chS C pr n t)).2)
  | 0, _ => by simp [cntP, sumN, chS]
  | t + 1, ht => by
    rw [ch_sum t (by omega)]
    simp only [cntP, sumN]
    have key : chN C pr n t = none ∨ ∃ b, chN C pr n t = some b := by
      cases chN C pr n t with
      | none => exact Or.inl rfl
      | some b => exact Or.inr ⟨b, rfl⟩
    rcases key with e | ⟨b, e⟩
    · rw [chS_none e, ch_none (by omega) e]
      simp [prO, isSm, e]
    · obtain ⟨h1, h2, h3, h4⟩ := ch_some e
      rw [chS_some e, ← h4]
      simp only [cdN, prO, isSm, e, Option.isSome_some, if_true]
      exact Prod.ext (by simp only; omega) (by simp only; omega)
theorem ch_all {C : Nat → Nat → Bool} {pr : Nat → Nat} {n : Nat} : (btN C pr n 0 0).1 = cntP (fun i => isSm (chN C pr n i)) n ∧ (btN C pr n 0 0).2 = sumN (prO pr C n) n := by
  have h := ch_sum (C := C) (pr := pr) (n := n) n (Nat.le_refl _)
  rw [bt_end] at h
  rw [h]
  exact ⟨rfl, rfl⟩
/-! sets -/
theorem addB0 {k j : Nat} (h : bitN k j = 0) : addB k j = k + 2 ^ j := by unfold addB; rw [if_neg (by omega)]
theorem add_pop {k j : Nat} (hk : k < 256) (hj : j < 8) (h : bitN k j = 0) : popN (addB k j) 8 = popN k 8 + 1 := by
  have : ∀ k, k < 256 → ∀ j, j < 8 → bitN k j = 0 → popN (addB k j) 8 = popN k 8 + 1 := by decide +kernel
  exact this k hk j hj h
theorem add_lt {n k j : Nat} (hn : n ≤ 8) (hk : k < 2 ^ n) (hj : j < n) : addB k j < 2 ^ n := by
  have : ∀ n, n ≤ 8 → ∀ k, k < 2 ^ n → ∀ j, j < n → addB k j < 2 ^ n := by decide +kernel
  exact this n hn k hk j hj
theorem add_256 {k j : Nat} (hk : k < 256) (hj : j < 8) : addB k j < 256 := by
  have := add_lt (n := 8) (Nat.le_refl _) (show k < 2 ^ 8 from hk) hj
  exact this
theorem add_bit {k o j : Nat} (hk : k < 256) (ho : o < 8) (hj : j < 8) : bitN (addB k o) j = if j = o then 1 else bitN k j := by
  have : ∀ k, k < 256 → ∀ o, o < 8 → ∀ j, j < 8 → bitN (addB k o) j = if j = o then 1 else bitN k j := by decide +kernel
  exact this k hk o ho j hj
theorem and255 {k : Nat} (hk : k < 256) : nI k &&& nI 255 = nI k := by
  have : ∀ k, k < 256 → nI k &&& nI 255 = nI k := by decide +kernel
  exact this k hk
theorem bit0 (j : Nat) : bitN 0 j = 0 := by simp [bitN]
theorem pop0 : popN 0 8 = 0 := by decide
theorem chS_ok {C : Nat → Nat → Bool} {pr : Nat → Nat} {n : Nat} (h8 : n ≤ 8) : ∀ t, chS C pr n t < 2 ^ n ∧ popN (chS C pr n t) 8 ≤ t
  | 0 => ⟨Nat.two_pow_pos n, by rw [show chS C pr n 0 = 0 from rfl, pop0]; exact Nat.le_refl _⟩
  | t + 1 => by
    obtain ⟨h1, h2⟩ := chS_ok (C := C) (pr := pr) h8 t
    have hp := p2_le h8
    cases e : chN C pr n t with
    | none => rw [chS_none e]; exact ⟨h1, by omega⟩
    | some b =>
      obtain ⟨b1, b2, b3, b4⟩ := ch_some e
      rw [chS_some e]
      refine ⟨add_lt h8 h1 b1, ?_⟩
      rw [add_pop (by omega) (by omega) b3]
      omega
/-- the set of those who have the breath -/
def obS (T : pN) (a br : Nat) : Nat → Nat
  | 0 => 0
  | o + 1 => if o ≠ a ∧ br ≤ T o then addB (obS T a br o) o else obS T a br o
theorem ob_lt {T : pN} {a br : Nat} : ∀ n, n ≤ 8 → obS T a br n < 256
  | 0, _ => by simp [obS]
  | o + 1, h => by
    have := ob_lt (T := T) (a := a) (br := br) o (by omega)
    simp only [obS]
    split
    · exact add_256 this (by omega)
    · exact this
theorem ob_bit {T : pN} {a br j : Nat} (hj : j < 8) : ∀ n, n ≤ 8 → bitN (obS T a br n) j = if j < n ∧ j ≠ a ∧ br ≤ T j then 1 else 0
  | 0, _ => by rw [if_neg (by omega)]; exact bit0 j
  | o + 1, h => by
    have ih := ob_bit (T := T) (a := a) (br := br) hj o (by omega)
    simp only [obS]
    split
    · rename_i c
      rw [add_bit (ob_lt o (by omega)) (by omega) hj]
      by_cases e : j = o
      · subst e; rw [if_pos rfl, if_pos ⟨by omega, c⟩]
      · rw [if_neg e, ih]
        by_cases c2 : j < o ∧ j ≠ a ∧ br ≤ T j
        · rw [if_pos c2, if_pos ⟨by omega, c2.2⟩]
        · rw [if_neg c2, if_neg (fun q => c2 ⟨by omega, q.2⟩)]
    · rename_i c
      rw [ih]
      by_cases e : j = o
      · subst e; rw [if_neg (by omega), if_neg (fun q => c q.2)]
      · by_cases c2 : j < o ∧ j ≠ a ∧ br ≤ T j
        · rw [if_pos c2, if_pos ⟨by omega, c2.2⟩]
        · rw [if_neg c2, if_neg (fun q => c2 ⟨by omega, q.2⟩)]
theorem mul_c (a : Nat) : a * 256 = 256 * a := Nat.mul_comm a 256
def canS (sv : Nat → Nat) (t b : Nat) : Bool := decide (bitN (sv t) b = 1)
/-- the pairing's rows -/
def cP (I : pHI) (n : Nat) (sv pr : Nat → Nat) : Prop := I 54 0 = nI n ∧ ∀ j, j < n → I 55 j = nI (sv j) ∧ I 56 j = nI (pr j)
def rP (n : Nat) (sv pr : Nat → Nat) : Prop := n ≤ 8 ∧ ∀ j, j < n → sv j < 256 ∧ pr j ≤ 20
def cT (I : pHI) (n : Nat) (sv pr : Nat → Nat) (t : Nat) : Prop := ∀ s, s < 2 ^ n → popN s 8 ≤ t → I 58 (t * 256 + s) = nI (vl (btN (canS sv) pr n t s))
theorem cP.off {I I' : pHI} {n : Nat} {sv pr : Nat → Nat} (h : cP I n sv pr) (f : ∀ c k, c = 54 ∨ c = 55 ∨ c = 56 → I' c k = I c k) : cP I' n sv pr := ⟨by rw [f 54 _ (Or.inl rfl)]; exact h.1, fun j hj => by rw [f 55 _ (by omega), f 56 _ (by omega)]; exact h.2 j hj⟩
/-- what pairing may write -/
def sP (I I' : pHI) : Prop := ∀ c k, c ≠ 57 → c ≠ 58 → I' c k = I c k
theorem sP.rf {I : pHI} : sP I I := fun _ _ _ _ => rfl
theorem sP.tr {I I1 I2 : pHI} (h1 : sP I I1) (h2 : sP I1 I2) : sP I I2 := fun c k a b => (h2 c k a b).trans (h1 c k a b)
theorem sP.pu {I I1 : pHI} {c k : Nat} {x : Int32} (h : sP I I1) (hc : c = 57 ∨ c = 58) : sP I (pu I1 c k x) := fun c' k' a b => by
  rw [pu_ne _ _ _ (by omega)]; exact h c' k' a b
theorem cP.sP {I I' : pHI} {n : Nat} {sv pr : Nat → Nat} (h : cP I n sv pr) (f : sP I I') : cP I' n sv pr := h.off (fun c k e => f c k (by omega) (by omega))
theorem ch_vl {n t s b : Nat} {sv pr : Nat → Nat} (hr : rP n sv pr) (ht : t < n) (hb : b < n) : (canS sv t b = true ∧ bitN s b = 0 ∧ 1000 - pr t + vl (btN (canS sv) pr n (t + 1) (addB s b)) = vl (btN (canS sv) pr n t s)) ↔ chP (canS sv) pr n t s b = true := by
  have hp : ∀ t, t < n → pr t ≤ 20 := fun t ht => (hr.2 t ht).2
  rw [vl_cd (hp t ht) (bt_ok hp hr.1 _), vl_eq (cd_ok (hp t ht) (bt_ok hp hr.1 _)) (okP_up (bt_ok hp hr.1 _))]
  exact ⟨fun h => decide_eq_true h, fun h => of_decide_eq_true h⟩
theorem bitN_or (k j : Nat) : bitN k j = 0 ∨ bitN k j = 1 := by
  have := bitN_le k j
  omega
