/-! rows of climbs: what they count together, how many storeys they have -/
def vlL (g : Nat → Nat → Nat) : Nat → List Nat → Nat
  | _, [] => 0
  | b, s :: L => g s b + vlL g (b + s) L
def smL : List Nat → Nat
  | [] => 0
  | s :: L => s + smL L
def okL (n : Nat) (L : List Nat) : Prop := ∀ s, s ∈ L → 1 ≤ s ∧ s ≤ n
theorem okL_nil (n : Nat) : okL n [] := fun s h => absurd h (by simp)
theorem okL_cons {n s : Nat} {L : List Nat} : okL n (s :: L) ↔ (1 ≤ s ∧ s ≤ n) ∧ okL n L := by simp [okL]
theorem okL_snoc {n s : Nat} {L : List Nat} : okL n (L ++ [s]) ↔ okL n L ∧ (1 ≤ s ∧ s ≤ n) := by
  unfold okL
  constructor
  · exact fun h => ⟨fun x hx => h x (by simp [hx]), h s (by simp)⟩
  · rintro ⟨h1, h2⟩ x hx
    rw [List.mem_append] at hx
    rcases hx with hx | hx
    · exact h1 x hx
    · rw [List.mem_singleton] at hx; rw [hx]; exact h2
theorem smL_app (A B : List Nat) : smL (A ++ B) = smL A + smL B := by
  induction A with
  | nil => simp [smL]
  | cons s A ih => simp only [List.cons_append, smL, ih]; omega
theorem vl_app (g : Nat → Nat → Nat) (A B : List Nat) : ∀ b, vlL g b (A ++ B) = vlL g b A + vlL g (b + smL A) B := by
  induction A with
  | nil => intro b; simp [vlL, smL]
  | cons s A ih => intro b; simp only [List.cons_append, vlL, smL, ih]; rw [Nat.add_assoc b]; omega
theorem smL_len {n : Nat} : ∀ {L : List Nat}, okL n L → L.length ≤ smL L
  | [], _ => Nat.le_refl _
  | s :: L, h => by
    have h2 := okL_cons.mp h
    have := smL_len h2.2
    simp only [List.length_cons, smL]
    omega
theorem vl_le2 {g : Nat → Nat → Nat} {n : Nat} (hg : ∀ s b, g s b ≤ 999) : ∀ (L : List Nat) (b : Nat), okL n L → vlL g b L ≤ 999 * smL L
  | [], _, _ => Nat.zero_le _
  | s :: L, b, h => by
    have h2 := okL_cons.mp h
    have := vl_le2 hg L (b + s) h2.2
    have := hg s b
    simp only [vlL, smL]
    omega
/-- the greatest of a set -/
def isM (A : List Nat → Prop) (f : List Nat → Nat) (o : Option Nat) : Prop := match o with
  | none => ∀ L, ¬ A L
  | some x => (∃ L, A L ∧ f L = x) ∧ ∀ L, A L → f L ≤ x
def mxO : Option Nat → Nat → Option Nat
  | none, y => some y
  | some x, y => some (max x y)
theorem isM_cg {A B : List Nat → Prop} {f : List Nat → Nat} {o : Option Nat} (h : isM A f o) (e : ∀ L, B L ↔ A L) : isM B f o := by
  have : B = A := funext (fun L => propext (e L))
  rw [this]
  exact h
theorem isM_same {A B C : List Nat → Prop} {f : List Nat → Nat} {o : Option Nat} (h : isM A f o) (hB : ∀ L, ¬ B L) (e : ∀ L, C L ↔ A L ∨ B L) : isM C f o :=
  isM_cg h (fun L => (e L).trans ⟨fun q => q.resolve_right (hB L), Or.inl⟩)
theorem isM_step {A B C : List Nat → Prop} {f : List Nat → Nat} {o : Option Nat} {y : Nat} (h : isM A f o) (h1 : ∃ L, B L ∧ f L = y) (h2 : ∀ L, B L → f L ≤ y) (e : ∀ L, C L ↔ A L ∨ B L) : isM C f (mxO o y) := by
  obtain ⟨L0, b1, b2⟩ := h1
  cases o with
  | none => exact ⟨⟨L0, (e L0).mpr (Or.inr b1), b2⟩, fun L hL => ((e L).mp hL).elim (fun q => absurd q (h L)) (h2 L)⟩
  | some x =>
    obtain ⟨⟨L1, a1, a2⟩, a3⟩ := h
    refine ⟨?_, fun L hL => ((e L).mp hL).elim (fun q => Nat.le_trans (a3 L q) (Nat.le_max_left _ _)) (fun q => Nat.le_trans (h2 L q) (Nat.le_max_right _ _))⟩
    rcases Nat.le_total x y with c | c
    · exact ⟨L0, (e L0).mpr (Or.inr b1), by rw [b2, Nat.max_eq_right c]⟩
    · exact ⟨L1, (e L1).mpr (Or.inl a1), by rw [a2, Nat.max_eq_left c]⟩
theorem isM_uniq {A : List Nat → Prop} {f : List Nat → Nat} {x y : Nat} (h1 : isM A f (some x)) (h2 : isM A f (some y)) : x = y := by
  obtain ⟨⟨L1, a1, a2⟩, a3⟩ := h1
  obtain ⟨⟨L2, b1, b2⟩, b3⟩ := h2
  have := a3 L2 b1
  have := b3 L1 a1
  omega
theorem mxO_I {o : Option Nat} {y : Nat} (ho : ∀ x, o = some x → x < 2 ^ 31) (hy : y < 2 ^ 31) : (if oI o < nI y then nI y else oI o) = oI (mxO o y) := by
  cases o with
  | none =>
    have : (-1 : Int32) < nI y := by
      rw [Int32.lt_iff_toInt_lt, nI_toInt hy]
      have h3 : (-1 : Int32).toInt = -1 := by decide +kernel
      omega
    rw [show oI none = (-1 : Int32) from rfl, if_pos this]
    rfl
  | some x =>
    rw [show oI (some x) = nI x from rfl, nI_max x y (ho x rfl) hy]
    rfl
/-- one climb more behind; ahead -/
def exL (A : Nat → List Nat → Prop) (sum j : Nat) (L : List Nat) : Prop := ∃ L0 s, L = L0 ++ [s] ∧ 1 ≤ s ∧ s < j ∧ s ≤ sum ∧ A (sum - s) L0
def nxL (A : Nat → List Nat → Prop) (b sum j : Nat) (L : List Nat) : Prop := ∃ s L0, L = s :: L0 ∧ 1 ≤ s ∧ s < j ∧ b + s ≤ sum ∧ A (b + s) L0
theorem ex_step {A : Nat → List Nat → Prop} {sum j : Nat} (hj : 1 ≤ j) (hs : j ≤ sum) (L : List Nat) : exL A sum (j + 1) L ↔ exL A sum j L ∨ ∃ L0, L = L0 ++ [j] ∧ A (sum - j) L0 := by
  constructor
  · rintro ⟨L0, s, h1, h2, h3, h4, h5⟩
    by_cases e : s = j
    · subst e; exact Or.inr ⟨L0, h1, h5⟩
    · exact Or.inl ⟨L0, s, h1, h2, by omega, h4, h5⟩
  · rintro (⟨L0, s, h1, h2, h3, h4, h5⟩ | ⟨L0, h1, h2⟩)
    · exact ⟨L0, s, h1, h2, by omega, h4, h5⟩
    · exact ⟨L0, j, h1, hj, by omega, hs, h2⟩
theorem nx_step {A : Nat → List Nat → Prop} {b sum j : Nat} (hj : 1 ≤ j) (hs : b + j ≤ sum) (L : List Nat) : nxL A b sum (j + 1) L ↔ nxL A b sum j L ∨ ∃ L0, L = j :: L0 ∧ A (b + j) L0 := by
  constructor
  · rintro ⟨s, L0, h1, h2, h3, h4, h5⟩
    by_cases e : s = j
    · subst e; exact Or.inr ⟨L0, h1, h5⟩
    · exact Or.inl ⟨s, L0, h1, h2, by omega, h4, h5⟩
  · rintro (⟨s, L0, h1, h2, h3, h4, h5⟩ | ⟨L0, h1, h2⟩)
    · exact ⟨s, L0, h1, h2, by omega, h4, h5⟩
    · exact ⟨j, L0, h1, hj, by omega, hs, h2⟩
theorem ex_none (A : Nat → List Nat → Prop) (sum : Nat) (f : List Nat → Nat) : isM (exL A sum 1) f none := fun L h => by
  obtain ⟨L0, s, h1, h2, h3, h4⟩ := h
  omega
theorem nx_none (A : Nat → List Nat → Prop) (b sum : Nat) (f : List Nat → Nat) : isM (nxL A b sum 1) f none := fun L h => by
  obtain ⟨s, L0, h1, h2, h3, h4⟩ := h
  omega
theorem ex_put {A : Nat → List Nat → Prop} {g : Nat → Nat → Nat} {sum j x : Nat} {o : Option Nat} (hj : 1 ≤ j) (hs : j ≤ sum) (hA : ∀ q L, A q L → smL L = q) (h : isM (exL A sum j) (vlL g 0) o) (hx : isM (A (sum - j)) (vlL g 0) (some x)) : isM (exL A sum (j + 1)) (vlL g 0) (mxO o (x + g j (sum - j))) := by
  obtain ⟨⟨L1, a1, a2⟩, a3⟩ := hx
  refine isM_step h (B := fun L => ∃ L0, L = L0 ++ [j] ∧ A (sum - j) L0) ⟨L1 ++ [j], ⟨L1, rfl, a1⟩, ?_⟩ (fun L hL => ?_) (ex_step hj hs)
  · rw [vl_app, a2, hA _ _ a1]; simp [vlL]
  · obtain ⟨L0, rfl, h2⟩ := hL
    rw [vl_app, hA _ _ h2]
    have := a3 L0 h2
    simp [vlL]
    exact this
theorem nx_put {A : Nat → List Nat → Prop} {g : Nat → Nat → Nat} {b sum j x : Nat} {o : Option Nat} (hj : 1 ≤ j) (hs : b + j ≤ sum) (h : isM (nxL A b sum j) (vlL g b) o) (hx : isM (A (b + j)) (vlL g (b + j)) (some x)) : isM (nxL A b sum (j + 1)) (vlL g b) (mxO o (x + g j b)) := by
  obtain ⟨⟨L1, a1, a2⟩, a3⟩ := hx
  refine isM_step h (B := fun L => ∃ L0, L = j :: L0 ∧ A (b + j) L0) ⟨j :: L1, ⟨L1, rfl, a1⟩, ?_⟩ (fun L hL => ?_) (nx_step hj hs)
  · simp only [vlL]; rw [a2]; omega
  · obtain ⟨L0, rfl, h2⟩ := hL
    have := a3 L0 h2
    simp only [vlL]
    omega
theorem ex_skip {A : Nat → List Nat → Prop} {f f2 : List Nat → Nat} {sum j : Nat} {o : Option Nat} (hj : 1 ≤ j) (hs : j ≤ sum) (h : isM (exL A sum j) f o) (hx : isM (A (sum - j)) f2 none) : isM (exL A sum (j + 1)) f o :=
  isM_same h (B := fun L => ∃ L0, L = L0 ++ [j] ∧ A (sum - j) L0) (fun L ⟨L0, _, q⟩ => hx L0 q) (ex_step hj hs)
theorem nx_skip {A : Nat → List Nat → Prop} {f f2 : List Nat → Nat} {b sum j : Nat} {o : Option Nat} (hj : 1 ≤ j) (hs : b + j ≤ sum) (h : isM (nxL A b sum j) f o) (hx : isM (A (b + j)) f2 none) : isM (nxL A b sum (j + 1)) f o :=
  isM_same h (B := fun L => ∃ L0, L = j :: L0 ∧ A (b + j) L0) (fun L ⟨L0, _, q⟩ => hx L0 q) (nx_step hj hs)
/-- rows of any length with so many storeys; of so many climbs; from somewhere on -/
def anyL (n q : Nat) (L : List Nat) : Prop := okL n L ∧ smL L = q
def rowL (n c q : Nat) (L : List Nat) : Prop := L.length = c ∧ okL n L ∧ smL L = q
def bwL (n sum m b : Nat) (L : List Nat) : Prop := L.length = m ∧ okL n L ∧ b + smL L = sum
theorem any_ex {n q : Nat} (hq : 1 ≤ q) (L : List Nat) : anyL n q L ↔ exL (anyL n) q (n + 1) L := by
  constructor
  · rintro ⟨h1, h2⟩
    rcases List.eq_nil_or_concat L with e | ⟨L0, s, e⟩
    · subst e; simp only [smL] at h2; omega
    · rw [List.concat_eq_append] at e
      subst e
      have h3 := okL_snoc.mp h1
      rw [smL_app] at h2
      simp only [smL] at h2
      exact ⟨L0, s, rfl, h3.2.1, by omega, by omega, h3.1, by omega⟩
  · rintro ⟨L0, s, rfl, h2, h3, h4, h5, h6⟩
    exact ⟨okL_snoc.mpr ⟨h5, h2, by omega⟩, by rw [smL_app]; simp only [smL]; omega⟩
theorem row_ex {n c q : Nat} (L : List Nat) : rowL n (c + 1) q L ↔ exL (rowL n c) q (n + 1) L := by
  constructor
  · rintro ⟨h0, h1, h2⟩
    rcases List.eq_nil_or_concat L with e | ⟨L0, s, e⟩
    · subst e; simp at h0
    · rw [List.concat_eq_append] at e
      subst e
      have h3 := okL_snoc.mp h1
      rw [smL_app] at h2
      simp only [smL] at h2
      simp only [List.length_append, List.length_cons, List.length_nil] at h0
      exact ⟨L0, s, rfl, h3.2.1, by omega, by omega, by omega, h3.1, by omega⟩
  · rintro ⟨L0, s, rfl, h2, h3, h4, h0, h5, h6⟩
    exact ⟨by simp only [List.length_append, List.length_cons, List.length_nil]; omega, okL_snoc.mpr ⟨h5, h2, by omega⟩, by rw [smL_app]; simp only [smL]; omega⟩
theorem bw_nx {n sum m b : Nat} (L : List Nat) : bwL n sum (m + 1) b L ↔ nxL (bwL n sum m) b sum (n + 1) L := by
  constructor
  · rintro ⟨h0, h1, h2⟩
    cases L with
    | nil => simp at h0
    | cons s L0 =>
      have h3 := okL_cons.mp h1
      simp only [smL] at h2
      simp only [List.length_cons] at h0
      exact ⟨s, L0, rfl, h3.1.1, by omega, by omega, by omega, h3.2, by omega⟩
  · rintro ⟨s, L0, rfl, h2, h3, h4, h0, h5, h6⟩
    exact ⟨by simp only [List.length_cons]; omega, okL_cons.mpr ⟨⟨h2, by omega⟩, h5⟩, by simp only [smL]; omega⟩
theorem ex_cut {A : Nat → List Nat → Prop} {sum j k : Nat} (h : j ≤ k) (h2 : j = k ∨ sum < j) (L : List Nat) : exL A sum k L ↔ exL A sum j L := by
  constructor
  · rintro ⟨L0, s, h1, h3, h4, h5, h6⟩; exact ⟨L0, s, h1, h3, by omega, h5, h6⟩
  · rintro ⟨L0, s, h1, h3, h4, h5, h6⟩; exact ⟨L0, s, h1, h3, by omega, h5, h6⟩
theorem nx_cut {A : Nat → List Nat → Prop} {b sum j k : Nat} (h : j ≤ k) (h2 : j = k ∨ sum < b + j) (L : List Nat) : nxL A b sum k L ↔ nxL A b sum j L := by
  constructor
  · rintro ⟨s, L0, h1, h3, h4, h5, h6⟩; exact ⟨s, L0, h1, h3, by omega, h5, h6⟩
  · rintro ⟨s, L0, h1, h3, h4, h5, h6⟩; exact ⟨s, L0, h1, h3, by omega, h5, h6⟩
/-! the order of rows -/
def lxL : List Nat → List Nat → Prop
  | [], _ => True
  | _ :: _, [] => False
  | s :: L, t :: M => s < t ∨ (s = t ∧ lxL L M)
theorem lx_rf : ∀ L, lxL L L
  | [] => trivial
  | _ :: L => Or.inr ⟨rfl, lx_rf L⟩
theorem lx_anti : ∀ {L M : List Nat}, L.length = M.length → lxL L M → lxL M L → L = M
  | [], [], _, _, _ => rfl
  | [], _ :: _, h, _, _ => by simp at h
  | _ :: _, [], h, _, _ => by simp at h
  | s :: L, t :: M, h, h1, h2 => by
    simp only [lxL] at h1 h2
    simp only [List.length_cons] at h
    rcases h1 with h1 | ⟨h1, h3⟩
    · rcases h2 with h2 | ⟨h2, _⟩ <;> omega
    · rcases h2 with h2 | ⟨_, h4⟩
      · omega
      · rw [h1, lx_anti (by omega) h3 h4]
/-- the first row -/
def isG (g : Nat → Nat → Nat) (n sum lk m b ac : Nat) (G : List Nat) : Prop := (bwL n sum m b G ∧ lk ≤ ac + vlL g b G) ∧ ∀ L, bwL n sum m b L → lk ≤ ac + vlL g b L → lxL G L
theorem isG_step {g : Nat → Nat → Nat} {n sum lk m b ac s : Nat} {G : List Nat} (hs : 1 ≤ s ∧ s ≤ n) (hl : ∀ s', 1 ≤ s' → s' < s → ∀ L0, bwL n sum m (b + s') L0 → ¬ lk ≤ ac + (g s' b + vlL g (b + s') L0)) (h : isG g n sum lk m (b + s) (ac + g s b) G) : isG g n sum lk (m + 1) b ac (s :: G) := by
  obtain ⟨⟨⟨h1, h2, h3⟩, h4⟩, h5⟩ := h
  refine ⟨⟨⟨by simp only [List.length_cons]; omega, okL_cons.mpr ⟨hs, h2⟩, by simp only [smL]; omega⟩, by simp only [vlL]; omega⟩, fun L hL hv => ?_⟩
  obtain ⟨q1, q2, q3⟩ := hL
  cases L with
  | nil => simp at q1
  | cons t M =>
    have q4 := okL_cons.mp q2
    simp only [List.length_cons] at q1
    simp only [smL] at q3
    simp only [vlL] at hv
    rcases Nat.lt_trichotomy s t with c | c | c
    · exact Or.inl c
    · subst c
      exact Or.inr ⟨rfl, h5 M ⟨by omega, q4.2, by omega⟩ (by omega)⟩
    · exact absurd hv (hl t q4.1.1 c M ⟨by omega, q4.2, by omega⟩)
/-! rows out of numbers -/
def dgL (n : Nat) : Nat → Nat → List Nat
  | 0, _ => []
  | m + 1, c => dgL n m (c / n) ++ [1 + c % n]
theorem dg_len (n : Nat) : ∀ m c, (dgL n m c).length = m
  | 0, _ => rfl
  | m + 1, c => by simp only [dgL, List.length_append, dg_len n m, List.length_cons, List.length_nil]
theorem dg_ok {n : Nat} (hn : 1 ≤ n) : ∀ m c, okL n (dgL n m c)
  | 0, _ => okL_nil n
  | m + 1, c => okL_snoc.mpr ⟨dg_ok hn m _, by omega, by have := Nat.mod_lt c hn; omega⟩
theorem dg_all {n : Nat} (hn : 1 ≤ n) : ∀ (m : Nat) (L : List Nat), L.length = m → okL n L → ∃ c, c < n ^ m ∧ dgL n m c = L
  | 0, L, h, _ => ⟨0, by simp, by rw [List.length_eq_zero_iff.mp h]; rfl⟩
  | m + 1, L, h, ho => by
    rcases List.eq_nil_or_concat L with e | ⟨L0, s, e⟩
    · subst e; simp at h
    · rw [List.concat_eq_append] at e
      subst e
      have h3 := okL_snoc.mp ho
      simp only [List.length_append, List.length_cons, List.length_nil] at h
      obtain ⟨c, c1, c2⟩ := dg_all hn m L0 (by omega) h3.1
      refine ⟨c * n + (s - 1), ?_, ?_⟩
      · have : (c + 1) * n ≤ n ^ m * n := Nat.mul_le_mul_right n c1
        rw [Nat.pow_succ]
        rw [Nat.succ_mul] at this
        omega
      · simp only [dgL]
        have hd : (c * n + (s - 1)) / n = c := by
          rw [Nat.mul_comm, Nat.mul_add_div hn, Nat.div_eq_of_lt (by omega)]
          rfl
        have hm : (c * n + (s - 1)) % n = s - 1 := by
          rw [Nat.mul_comm, Nat.mul_add_mod, Nat.mod_eq_of_lt (by omega)]
        rw [hd, hm, c2]
        congr 2
        omega
theorem lx_snoc : ∀ {A B : List Nat} {x y : Nat}, A.length = B.length → lxL A B → (A = B → x ≤ y) → lxL (A ++ [x]) (B ++ [y])
  | [], [], x, y, _, _, h => by
    have := h rfl
    show x < y ∨ (x = y ∧ lxL [] [])
    rcases Nat.lt_or_ge x y with c | c
    · exact Or.inl c
    · exact Or.inr ⟨by omega, trivial⟩
  | [], _ :: _, _, _, h, _, _ => by simp at h
  | _ :: _, [], _, _, h, _, _ => by simp at h
  | s :: A, t :: B, x, y, hl, h, hx => by
    simp only [List.length_cons] at hl
    simp only [List.cons_append, lxL] at h ⊢
    rcases h with h | ⟨h1, h2⟩
    · exact Or.inl h
    · exact Or.inr ⟨h1, lx_snoc (by omega) h2 (fun e => hx (by rw [h1, e]))⟩
theorem dg_inj {n : Nat} (hn : 1 ≤ n) : ∀ (m : Nat) {c d : Nat}, c < n ^ m → d < n ^ m → dgL n m c = dgL n m d → c = d
  | 0, c, d, h1, h2, _ => by simp at h1 h2; omega
  | m + 1, c, d, h1, h2, e => by
    simp only [dgL] at e
    have e2 := List.append_inj e (by rw [dg_len, dg_len])
    rw [Nat.pow_succ] at h1 h2
    have e3 := dg_inj hn m (Nat.div_lt_of_lt_mul (by rw [Nat.mul_comm]; exact h1)) (Nat.div_lt_of_lt_mul (by rw [Nat.mul_comm]; exact h2)) e2.1
    have e4 : 1 + c % n = 1 + d % n := by simpa using e2.2
    have a1 := Nat.div_add_mod c n
    have a2 := Nat.div_add_mod d n
    rw [e3] at a1
    omega
theorem dg_mono {n : Nat} (hn : 1 ≤ n) : ∀ (m : Nat) {c d : Nat}, c < n ^ m → d < n ^ m → c ≤ d → lxL (dgL n m c) (dgL n m d)
  | 0, _, _, _, _, _ => trivial
  | m + 1, c, d, h1, h2, h => by
    simp only [dgL]
    rw [Nat.pow_succ] at h1 h2
    have b1 : c / n < n ^ m := Nat.div_lt_of_lt_mul (by rw [Nat.mul_comm]; exact h1)
    have b2 : d / n < n ^ m := Nat.div_lt_of_lt_mul (by rw [Nat.mul_comm]; exact h2)
    refine lx_snoc (by rw [dg_len, dg_len]) (dg_mono hn m b1 b2 (Nat.div_le_div_right h)) (fun e => ?_)
    have e3 := dg_inj hn m b1 b2 e
    have a1 := Nat.div_add_mod c n
    have a2 := Nat.div_add_mod d n
    rw [e3] at a1
    omega
