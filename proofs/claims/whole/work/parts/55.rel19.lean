/-! CHALK: a mark is (of a storey, is, its number, told at, untold at) -/
abbrev pMk : Type := Nat → Bool × Bool × Nat × Nat × Option Nat
def cM (I : pHI) (m u : Nat) (M : pMk) : Prop := I 47 5 = nI m ∧ I 47 6 = nI u ∧ ∀ i, i < m → I 48 i = nI (M i).1.toNat ∧ I 49 i = nI (M i).2.1.toNat ∧ I 50 i = nI (M i).2.2.1 ∧ I 51 i = nI (M i).2.2.2.1 ∧ I 52 i = oI (M i).2.2.2.2
def mM (I : pHI) (m u : Nat) (M : pMk) : Prop := I 67 64 = nI m ∧ I 67 65 = nI u ∧ ∀ i, i < m → I 101 i = nI (1 - (M i).1.toNat) ∧ I 105 i = nI (M i).2.1.toNat ∧ I 102 i = nI (M i).2.2.1 ∧ I 103 i = nI (M i).2.2.2.1 ∧ I 104 i = oI (M i).2.2.2.2
def rM (H : pN) (m u : Nat) (M : pMk) : Prop := m ≤ 30 ∧ u ≤ 100000 ∧ ∀ i, i < m → (M i).2.2.1 ≤ 20 ∧ ((M i).1 = false → (M i).2.2.1 ≤ 9) ∧ (M i).2.2.2.1 ≤ 100000 ∧ ∀ v, (M i).2.2.2.2 = some v → v ≤ 100000
/-- whether a mark counts, as known at k -/
def cnM (M : pMk) (k : Int32) (i : Nat) : Prop := ¬ k < nI (M i).2.2.2.1 ∧ ∀ v, (M i).2.2.2.2 = some v → ¬ nI v ≤ k
/-- whether a run of somebody so heavy is so -/
def okM (M : pMk) (hv lo hi i : Nat) : Prop := (M i).2.1 = true ↔ (if (M i).1 = true then lo ≤ (M i).2.2.1 ∧ (M i).2.2.1 ≤ hi else (M i).2.2.1 ≤ hv)
def runP (M : pMk) (k : Int32) (m hv st lo hi : Nat) : Prop := hi - lo ≤ st ∧ ∀ i, i < m → cnM M k i → okM M hv lo hi i
/-! rows of bits -/
theorem nI_or2 (a b : Nat) : nI a ||| nI b = nI (a ||| b) := by
  apply Int32.toBitVec_inj.mp
  show BitVec.ofNat 32 a ||| BitVec.ofNat 32 b = BitVec.ofNat 32 (a ||| b)
  rw [BitVec.ofNat_or]
theorem nI_and2 (a b : Nat) : nI a &&& nI b = nI (a &&& b) := by
  apply Int32.toBitVec_inj.mp
  show BitVec.ofNat 32 a &&& BitVec.ofNat 32 b = BitVec.ofNat 32 (a &&& b)
  rw [BitVec.ofNat_and]
theorem shl20 {n : Nat} (hn : n ≤ 20) : nI 1 <<< (nI n &&& 31) = nI (2 ^ n) := by
  have : ∀ n, n ≤ 20 → nI 1 <<< (nI n &&& 31) = nI (2 ^ n) := by decide +kernel
  exact this n hn
theorem p2_21 {n : Nat} (hn : n ≤ 20) : 2 ^ n < 2 ^ 21 := Nat.pow_lt_pow_right (by decide) (by omega)
theorem and_sub {r w : Nat} : r &&& w = w ↔ ∀ b, w.testBit b = true → r.testBit b = true := by
  constructor
  · intro h b hb
    have h2 := congrArg (fun x => x.testBit b) h
    simp only [Nat.testBit_and, hb, Bool.and_true] at h2
    exact h2
  · intro h
    apply Nat.eq_of_testBit_eq
    intro i
    rw [Nat.testBit_and]
    cases e : w.testBit i with
    | false => simp
    | true => rw [h i e]; rfl
theorem and_zero2 {r w : Nat} : r &&& w = 0 ↔ ∀ b, w.testBit b = true → r.testBit b = false := by
  constructor
  · intro h b hb
    have h2 := congrArg (fun x => x.testBit b) h
    simp only [Nat.testBit_and, hb, Bool.and_true, Nat.zero_testBit] at h2
    exact h2
  · intro h
    apply Nat.eq_of_testBit_eq
    intro i
    rw [Nat.testBit_and, Nat.zero_testBit]
    cases e : w.testBit i with
    | false => simp
    | true => rw [h i e]; rfl
/-- a run's bits -/
def rmB (lo : Nat) : Nat → Nat
  | 0 => 2 ^ lo
  | i + 1 => rmB lo i ||| 2 ^ (lo + 1 + i)
theorem rmB_bit (lo b : Nat) : ∀ i, (rmB lo i).testBit b = decide (lo ≤ b ∧ b ≤ lo + i)
  | 0 => by
    rw [rmB, Nat.testBit_two_pow]
    congr 1
    apply propext
    omega
  | i + 1 => by
    rw [rmB, Nat.testBit_or, rmB_bit lo b i, Nat.testBit_two_pow, ← Bool.decide_or]
    congr 1
    apply propext
    omega
theorem rmB_lt {lo : Nat} : ∀ i, lo + i ≤ 20 → rmB lo i < 2 ^ 21
  | 0, h => p2_21 (by omega)
  | i + 1, h => Nat.or_lt_two_pow (rmB_lt i (by omega)) (p2_21 (by omega))
/-! what the marks say together -/
def wN (M : pMk) (k : Int32) (is : Bool) (P : Nat → Prop) : Nat → Nat → Prop := fun j w => w < 2 ^ 21 ∧ ∀ b, (w.testBit b = true ↔ ∃ i, i < j ∧ cnM M k i ∧ (M i).1 = true ∧ (M i).2.1 = is ∧ (M i).2.2.1 = b)
def mkS (M : pMk) (k : Int32) (j w o l b : Nat) : Prop := (w < 2 ^ 21 ∧ ∀ x, (w.testBit x = true ↔ ∃ i, i < j ∧ cnM M k i ∧ (M i).1 = true ∧ (M i).2.1 = true ∧ (M i).2.2.1 = x)) ∧ (o < 2 ^ 21 ∧ ∀ x, (o.testBit x = true ↔ ∃ i, i < j ∧ cnM M k i ∧ (M i).1 = true ∧ (M i).2.1 = false ∧ (M i).2.2.1 = x)) ∧ (l ≤ 9 ∧ ∀ x, (l ≤ x ↔ ∀ i, i < j → cnM M k i → (M i).1 = false → (M i).2.1 = true → (M i).2.2.1 ≤ x)) ∧ (b ≤ 10 ∧ ∀ x, (x < b ↔ x < 10 ∧ ∀ i, i < j → cnM M k i → (M i).1 = false → (M i).2.1 = false → ¬ (M i).2.2.1 ≤ x))
theorem mkS_0 (M : pMk) (k : Int32) : mkS M k 0 0 0 0 10 := by
  refine ⟨⟨by decide, fun x => ?_⟩, ⟨by decide, fun x => ?_⟩, ⟨by decide, fun x => ?_⟩, ⟨by decide, fun x => ?_⟩⟩
  · rw [Nat.zero_testBit]; exact ⟨fun h => absurd h (by decide), fun ⟨i, h, _⟩ => absurd h (Nat.not_lt_zero _)⟩
  · rw [Nat.zero_testBit]; exact ⟨fun h => absurd h (by decide), fun ⟨i, h, _⟩ => absurd h (Nat.not_lt_zero _)⟩
  · exact ⟨fun _ i h => absurd h (Nat.not_lt_zero _), fun _ => Nat.zero_le _⟩
  · exact ⟨fun h => ⟨h, fun i h2 => absurd h2 (Nat.not_lt_zero _)⟩, fun h => h.1⟩
theorem ex_succ {j : Nat} {P : Nat → Prop} : (∃ i, i < j + 1 ∧ P i) ↔ (∃ i, i < j ∧ P i) ∨ P j := by
  constructor
  · rintro ⟨i, h, hp⟩
    by_cases e : i = j
    · subst e; exact Or.inr hp
    · exact Or.inl ⟨i, by omega, hp⟩
  · rintro (⟨i, h, hp⟩ | hp)
    · exact ⟨i, by omega, hp⟩
    · exact ⟨j, by omega, hp⟩
theorem all_succ {j : Nat} {P : Nat → Prop} : (∀ i, i < j + 1 → P i) ↔ (∀ i, i < j → P i) ∧ P j := by
  constructor
  · exact fun h => ⟨fun i hi => h i (by omega), h j (by omega)⟩
  · rintro ⟨h1, h2⟩ i hi
    by_cases e : i = j
    · subst e; exact h2
    · exact h1 i (by omega)
theorem mkS_skip {M : pMk} {k : Int32} {j w o l b : Nat} (h : mkS M k j w o l b) (hc : ¬ cnM M k j) : mkS M k (j + 1) w o l b := by
  obtain ⟨⟨w1, w2⟩, ⟨o1, o2⟩, ⟨l1, l2⟩, ⟨b1, b2⟩⟩ := h
  refine ⟨⟨w1, fun x => ?_⟩, ⟨o1, fun x => ?_⟩, ⟨l1, fun x => ?_⟩, ⟨b1, fun x => ?_⟩⟩
  · rw [ex_succ, w2 x]; exact ⟨Or.inl, fun h => h.resolve_right (fun q => hc q.1)⟩
  · rw [ex_succ, o2 x]; exact ⟨Or.inl, fun h => h.resolve_right (fun q => hc q.1)⟩
  · rw [all_succ, l2 x]; exact ⟨fun h => ⟨h, fun q => absurd q hc⟩, fun h => h.1⟩
  · rw [all_succ, b2 x]; exact ⟨fun h => ⟨h.1, h.2, fun q => absurd q hc⟩, fun h => ⟨h.1, h.2.1⟩⟩
theorem mkS_w {M : pMk} {k : Int32} {j w o l b : Nat} (h : mkS M k j w o l b) (hc : cnM M k j) (h1 : (M j).1 = true) (h2 : (M j).2.1 = true) (h3 : (M j).2.2.1 ≤ 20) : mkS M k (j + 1) (w ||| 2 ^ (M j).2.2.1) o l b := by
  obtain ⟨⟨w1, w2⟩, ⟨o1, o2⟩, ⟨l1, l2⟩, ⟨b1, b2⟩⟩ := h
  refine ⟨⟨Nat.or_lt_two_pow w1 (p2_21 h3), fun x => ?_⟩, ⟨o1, fun x => ?_⟩, ⟨l1, fun x => ?_⟩, ⟨b1, fun x => ?_⟩⟩
  · rw [ex_succ, Nat.testBit_or, Bool.or_eq_true, w2 x, Nat.testBit_two_pow, decide_eq_true_eq]
    exact ⟨fun h => h.elim Or.inl (fun e => Or.inr ⟨hc, h1, h2, e⟩), fun h => h.elim Or.inl (fun q => Or.inr q.2.2.2)⟩
  · rw [ex_succ, o2 x]; exact ⟨Or.inl, fun h => h.resolve_right (fun q => by rw [h2] at q; exact absurd q.2.2.1 (by decide))⟩
  · rw [all_succ, l2 x]; exact ⟨fun h => ⟨h, fun _ q => by rw [h1] at q; exact absurd q (by decide)⟩, fun h => h.1⟩
  · rw [all_succ, b2 x]; exact ⟨fun h => ⟨h.1, h.2, fun _ q => by rw [h1] at q; exact absurd q (by decide)⟩, fun h => ⟨h.1, h.2.1⟩⟩
theorem mkS_o {M : pMk} {k : Int32} {j w o l b : Nat} (h : mkS M k j w o l b) (hc : cnM M k j) (h1 : (M j).1 = true) (h2 : (M j).2.1 = false) (h3 : (M j).2.2.1 ≤ 20) : mkS M k (j + 1) w (o ||| 2 ^ (M j).2.2.1) l b := by
  obtain ⟨⟨w1, w2⟩, ⟨o1, o2⟩, ⟨l1, l2⟩, ⟨b1, b2⟩⟩ := h
  refine ⟨⟨w1, fun x => ?_⟩, ⟨Nat.or_lt_two_pow o1 (p2_21 h3), fun x => ?_⟩, ⟨l1, fun x => ?_⟩, ⟨b1, fun x => ?_⟩⟩
  · rw [ex_succ, w2 x]; exact ⟨Or.inl, fun h => h.resolve_right (fun q => by rw [h2] at q; exact absurd q.2.2.1 (by decide))⟩
  · rw [ex_succ, Nat.testBit_or, Bool.or_eq_true, o2 x, Nat.testBit_two_pow, decide_eq_true_eq]
    exact ⟨fun h => h.elim Or.inl (fun e => Or.inr ⟨hc, h1, h2, e⟩), fun h => h.elim Or.inl (fun q => Or.inr q.2.2.2)⟩
  · rw [all_succ, l2 x]; exact ⟨fun h => ⟨h, fun _ q => by rw [h1] at q; exact absurd q (by decide)⟩, fun h => h.1⟩
  · rw [all_succ, b2 x]; exact ⟨fun h => ⟨h.1, h.2, fun _ q => by rw [h1] at q; exact absurd q (by decide)⟩, fun h => ⟨h.1, h.2.1⟩⟩
theorem mkS_l {M : pMk} {k : Int32} {j w o l b : Nat} (h : mkS M k j w o l b) (hc : cnM M k j) (h1 : (M j).1 = false) (h2 : (M j).2.1 = true) (h3 : (M j).2.2.1 ≤ 9) : mkS M k (j + 1) w o (max l (M j).2.2.1) b := by
  obtain ⟨⟨w1, w2⟩, ⟨o1, o2⟩, ⟨l1, l2⟩, ⟨b1, b2⟩⟩ := h
  refine ⟨⟨w1, fun x => ?_⟩, ⟨o1, fun x => ?_⟩, ⟨Nat.max_le.mpr ⟨l1, h3⟩, fun x => ?_⟩, ⟨b1, fun x => ?_⟩⟩
  · rw [ex_succ, w2 x]; exact ⟨Or.inl, fun h => h.resolve_right (fun q => by rw [h1] at q; exact absurd q.2.1 (by decide))⟩
  · rw [ex_succ, o2 x]; exact ⟨Or.inl, fun h => h.resolve_right (fun q => by rw [h1] at q; exact absurd q.2.1 (by decide))⟩
  · rw [all_succ, Nat.max_le, l2 x]; exact ⟨fun h => ⟨h.1, fun _ _ _ => h.2⟩, fun h => ⟨h.1, h.2 hc h1 h2⟩⟩
  · rw [all_succ, b2 x]; exact ⟨fun h => ⟨h.1, h.2, fun _ _ q => by rw [h2] at q; exact absurd q (by decide)⟩, fun h => ⟨h.1, h.2.1⟩⟩
theorem mkS_b {M : pMk} {k : Int32} {j w o l b : Nat} (h : mkS M k j w o l b) (hc : cnM M k j) (h1 : (M j).1 = false) (h2 : (M j).2.1 = false) : mkS M k (j + 1) w o l (min b (M j).2.2.1) := by
  obtain ⟨⟨w1, w2⟩, ⟨o1, o2⟩, ⟨l1, l2⟩, ⟨b1, b2⟩⟩ := h
  refine ⟨⟨w1, fun x => ?_⟩, ⟨o1, fun x => ?_⟩, ⟨l1, fun x => ?_⟩, ⟨Nat.le_trans (Nat.min_le_left _ _) b1, fun x => ?_⟩⟩
  · rw [ex_succ, w2 x]; exact ⟨Or.inl, fun h => h.resolve_right (fun q => by rw [h1] at q; exact absurd q.2.1 (by decide))⟩
  · rw [ex_succ, o2 x]; exact ⟨Or.inl, fun h => h.resolve_right (fun q => by rw [h1] at q; exact absurd q.2.1 (by decide))⟩
  · rw [all_succ, l2 x]; exact ⟨fun h => ⟨h, fun _ _ q => by rw [h2] at q; exact absurd q (by decide)⟩, fun h => h.1⟩
  · rw [all_succ, Nat.lt_min, b2 x]
    exact ⟨fun h => ⟨h.1.1, h.1.2, fun _ _ _ => Nat.not_le.mpr h.2⟩, fun h => ⟨⟨h.1, h.2.1⟩, Nat.not_le.mp (h.2.2 hc h1 h2)⟩⟩
/-- the class's four checks are the model's one -/
theorem mk_run {M : pMk} {k : Int32} {m w o l b hv st lo i : Nat} (h : mkS M k m w o l b) (h9 : hv ≤ 9) : ((l ≤ hv ∧ hv < b) ∧ lo + i - lo ≤ st ∧ rmB lo i &&& w = w ∧ rmB lo i &&& o = 0) ↔ runP M k m hv st lo (lo + i) := by
  obtain ⟨⟨w1, w2⟩, ⟨o1, o2⟩, ⟨l1, l2⟩, ⟨b1, b2⟩⟩ := h
  rw [and_sub, and_zero2, l2 hv, b2 hv]
  constructor
  · rintro ⟨⟨q1, -, q2⟩, q3, q4, q5⟩
    refine ⟨q3, fun x hx hc => ?_⟩
    unfold okM
    cases e1 : (M x).1 with
    | true =>
      rw [if_pos rfl]
      cases e2 : (M x).2.1 with
      | true =>
        have := q4 _ ((w2 _).mpr ⟨x, hx, hc, e1, e2, rfl⟩)
        rw [rmB_bit] at this
        exact ⟨fun _ => of_decide_eq_true this, fun _ => rfl⟩
      | false =>
        have := q5 _ ((o2 _).mpr ⟨x, hx, hc, e1, e2, rfl⟩)
        rw [rmB_bit] at this
        exact ⟨fun q => absurd q (by decide), fun q => absurd q (of_decide_eq_false this)⟩
    | false =>
      rw [if_neg (by decide)]
      cases e2 : (M x).2.1 with
      | true => exact ⟨fun _ => q1 x hx hc e1 e2, fun _ => rfl⟩
      | false => exact ⟨fun q => absurd q (by decide), fun q => absurd q (q2 x hx hc e1 e2)⟩
  · rintro ⟨q3, q⟩
    refine ⟨⟨fun x hx hc e1 e2 => ?_, by omega, fun x hx hc e1 e2 => ?_⟩, q3, fun y hy => ?_, fun y hy => ?_⟩
    · have := q x hx hc
      unfold okM at this
      rw [e1, e2, if_neg (by decide)] at this
      exact this.mp rfl
    · have := q x hx hc
      unfold okM at this
      rw [e1, e2, if_neg (by decide)] at this
      exact fun c => absurd (this.mpr c) (by decide)
    · obtain ⟨x, hx, hc, e1, e2, rfl⟩ := (w2 y).mp hy
      have := q x hx hc
      unfold okM at this
      rw [e1, e2, if_pos rfl] at this
      rw [rmB_bit]
      exact decide_eq_true (this.mp rfl)
    · obtain ⟨x, hx, hc, e1, e2, rfl⟩ := (o2 y).mp hy
      have := q x hx hc
      unfold okM at this
      rw [e1, e2, if_pos rfl] at this
      rw [rmB_bit]
      exact decide_eq_false (fun c => absurd (this.mpr c) (by decide))
/-! how many, and how many with a storey -/
noncomputable def dcd (P : Prop) : Bool := @decide P (Classical.propDecidable P)
theorem dcd_t {P : Prop} (h : P) : dcd P = true := by unfold dcd; exact @decide_eq_true P (Classical.propDecidable P) h
theorem dcd_f {P : Prop} (h : ¬ P) : dcd P = false := by unfold dcd; exact @decide_eq_false P (Classical.propDecidable P) h
noncomputable def fR2 (M : pMk) (k : Int32) (m hv st lo hi : Nat) : Bool := dcd (runP M k m hv st lo hi)
def c1N (f : Nat → Nat → Bool) (lo : Nat) : Nat → Nat
  | 0 => 0
  | i + 1 => c1N f lo i + (f lo (lo + 1 + i)).toNat
def c2N (f : Nat → Nat → Bool) (n : Nat) : Nat → Nat
  | 0 => 0
  | l + 1 => c2N f n l + c1N f l (n - l)
def wiB (f : Nat → Nat → Bool) (s lo hi : Nat) : Bool := f lo hi && (decide (lo ≤ s) && decide (s ≤ hi))
theorem c1_tail {f : Nat → Nat → Bool} {lo i : Nat} : ∀ j, i ≤ j → (∀ q, i ≤ q → q < j → f lo (lo + 1 + q) = false) → c1N f lo j = c1N f lo i
  | 0, h, _ => by rw [show i = 0 by omega]
  | j + 1, h, hf => by
    by_cases e : i = j + 1
    · rw [e]
    · simp only [c1N]
      rw [c1_tail j (by omega) (fun q a b => hf q a (by omega)), hf j (by omega) (by omega)]
      rfl
theorem c2_zero {f : Nat → Nat → Bool} {n : Nat} : ∀ l, (∀ a b, f a b = false) → c2N f n l = 0
  | 0, _ => rfl
  | l + 1, h => by
    simp only [c2N]
    rw [c2_zero l h, c1_tail (i := 0) (n - l) (Nat.zero_le _) (fun q _ _ => h _ _)]
    rfl
theorem c1_le {f : Nat → Nat → Bool} {lo : Nat} : ∀ i, c1N f lo i ≤ i
  | 0 => Nat.le_refl _
  | i + 1 => by
    have := c1_le (f := f) (lo := lo) i
    have := Bool.toNat_le (f lo (lo + 1 + i))
    simp only [c1N]
    omega
theorem c2_le {f : Nat → Nat → Bool} {n : Nat} : ∀ l, c2N f n l ≤ n * l
  | 0 => Nat.le_refl _
  | l + 1 => by
    have h1 := c2_le (f := f) (n := n) l
    have h2 := c1_le (f := f) (lo := l) (n - l)
    simp only [c2N, Nat.mul_succ]
    omega
theorem c1_mono {f g : Nat → Nat → Bool} {lo : Nat} (h : ∀ a b, g a b = true → f a b = true) : ∀ i, c1N g lo i ≤ c1N f lo i
  | 0 => Nat.le_refl _
  | i + 1 => by
    have := c1_mono (lo := lo) h i
    have h2 := h lo (lo + 1 + i)
    simp only [c1N]
    cases e : g lo (lo + 1 + i) with
    | false => have := Bool.toNat_le (f lo (lo + 1 + i)); simp; omega
    | true => rw [h2 e]; omega
theorem c2_mono {f g : Nat → Nat → Bool} {n : Nat} (h : ∀ a b, g a b = true → f a b = true) : ∀ l, c2N g n l ≤ c2N f n l
  | 0 => Nat.le_refl _
  | l + 1 => Nat.add_le_add (c2_mono h l) (c1_mono h _)
theorem sumN_mono {f g : Nat → Nat} (h : ∀ j, g j ≤ f j) : ∀ n, sumN g n ≤ sumN f n
  | 0 => Nat.le_refl _
  | n + 1 => Nat.add_le_add (sumN_mono h n) (h n)
theorem wi_le {f : Nat → Nat → Bool} {s : Nat} (a b : Nat) (h : wiB f s a b = true) : f a b = true := by
  unfold wiB at h
  cases e : f a b with
  | false => rw [e] at h; simp at h
  | true => rfl
/-- all the runs, by tenants; those with a storey -/
noncomputable def rnF (M : pMk) (k : Int32) (m : Nat) (H : pN) (j : Nat) : Nat → Nat → Bool := fR2 M k m (H (24 + j)) (H (16 + j))
noncomputable def rnN (M : pMk) (k : Int32) (m : Nat) (H : pN) (j : Nat) : Nat := c2N (rnF M k m H j) (H 0) (H 0)
noncomputable def rnW (M : pMk) (k : Int32) (m : Nat) (H : pN) (s j : Nat) : Nat := c2N (wiB (rnF M k m H j) s) (H 0) (H 0)
theorem rn_le (M : pMk) (k : Int32) (m : Nat) {H : pN} (h20 : H 0 ≤ 20) (j : Nat) : rnN M k m H j ≤ 400 := Nat.le_trans (c2_le _) (Nat.le_trans (Nat.mul_le_mul h20 h20) (by decide))
theorem rnW_le (M : pMk) (k : Int32) (m : Nat) (H : pN) (s j : Nat) : rnW M k m H s j ≤ rnN M k m H j := c2_mono (fun a b h => wi_le a b h) _
/-- the first storey of the fewest -/
def lsN (f : Nat → Nat) : Nat → Option Nat
  | 0 => none
  | n + 1 => match lsN f n with
    | none => some n
    | some b => if f n < f b then some n else some b
theorem ls_some {f : Nat → Nat} : ∀ {n b : Nat}, lsN f n = some b → b < n
  | 0, b, h => by simp [lsN] at h
  | n + 1, b, h => by
    simp only [lsN] at h
    split at h
    · simp at h; omega
    · rename_i k e
      have := ls_some e
      split at h <;> (simp at h; omega)
theorem ls_none {f : Nat → Nat} : ∀ {n : Nat}, lsN f n = none → n = 0
  | 0, _ => rfl
  | n + 1, h => by
    simp only [lsN] at h
    split at h
    · simp at h
    · split at h <;> simp at h
theorem ls_0 {f : Nat → Nat} {n : Nat} (h : lsN f n = none) : lsN f (n + 1) = some n := by simp only [lsN, h]
theorem ls_y {f : Nat → Nat} {n b : Nat} (h : lsN f n = some b) (c : f n < f b) : lsN f (n + 1) = some n := by simp only [lsN, h, if_pos c]
theorem ls_n {f : Nat → Nat} {n b : Nat} (h : lsN f n = some b) (c : ¬ f n < f b) : lsN f (n + 1) = some b := by simp only [lsN, h, if_neg c]
def mxL (R : Nat) (Y : Nat → Nat) (s : Nat) : Nat := max (Y s) (R - Y s)
