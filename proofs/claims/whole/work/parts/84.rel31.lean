/-! TOKENS: bytes B, n of them; 256 behind the last -/
def cbB (B : Nat → Nat) (n p : Nat) : Nat := if p < n then B p else 256
def sgB (c : Nat) : Bool := c == 59 || c == 40 || c == 41 || c == 60 || c == 62 || c == 61 || c == 43 || c == 45 || c == 42 || c == 47 || c == 37
/-- 0 the end, 5 blank, 2 a letter, 3 a digit, 4 a sign, 1 nothing of these -/
def sortC (c : Nat) : Nat := if c = 256 then 0 else if c = 32 ∨ c = 10 then 5 else if 97 ≤ c ∧ c ≤ 122 then 2 else if 48 ≤ c ∧ c ≤ 57 then 3 else if sgB c = true then 4 else 1
def runE (P : Nat → Bool) : Nat → Nat → Nat
  | 0, p => p
  | m + 1, p => if P p = true then runE P m (p + 1) else p
/-- the first place from p on where P is not, n at the latest -/
def rE (n : Nat) (P : Nat → Bool) (p : Nat) : Nat := runE P (n - p) p
theorem rE_y {n p : Nat} {P : Nat → Bool} (hp : p < n) (h : P p = true) : rE n P p = rE n P (p + 1) := by
  unfold rE
  rw [show n - p = (n - (p + 1)) + 1 by omega, runE, if_pos h]
theorem rE_n {n p : Nat} {P : Nat → Bool} (h : ¬ P p = true) : rE n P p = p := by
  unfold rE
  cases e : n - p with
  | zero => rfl
  | succ m => rw [runE, if_neg h]
theorem rE_e {n p : Nat} {P : Nat → Bool} (h : n ≤ p) : rE n P p = p := by
  unfold rE
  rw [show n - p = 0 by omega]; rfl
theorem run_b {P : Nat → Bool} : ∀ (m p : Nat), p ≤ runE P m p ∧ runE P m p ≤ p + m ∧ (∀ q, p ≤ q → q < runE P m p → P q = true) ∧ (runE P m p < p + m → ¬ P (runE P m p) = true)
  | 0, p => ⟨Nat.le_refl _, Nat.le_refl _, fun q a b => by simp only [runE] at b; omega, fun h => by simp only [runE] at h; omega⟩
  | m + 1, p => by
    simp only [runE]
    by_cases c : P p = true
    · rw [if_pos c]
      obtain ⟨a, b, d, e⟩ := run_b (P := P) m (p + 1)
      refine ⟨by omega, by omega, fun q h1 h2 => ?_, fun h => e (by omega)⟩
      by_cases hq : q = p
      · rw [hq]; exact c
      · exact d q (by omega) h2
    · rw [if_neg c]
      exact ⟨Nat.le_refl _, by omega, fun q h1 h2 => by omega, fun _ => c⟩
theorem rE_b {n p : Nat} {P : Nat → Bool} (hp : p ≤ n) : p ≤ rE n P p ∧ rE n P p ≤ n ∧ (∀ q, p ≤ q → q < rE n P p → P q = true) ∧ (rE n P p < n → ¬ P (rE n P p) = true) := by
  obtain ⟨a, b, d, e⟩ := run_b (P := P) (n - p) p
  unfold rE
  exact ⟨a, by omega, d, fun h => e (by omega)⟩
def isSo (B : Nat → Nat) (n s : Nat) (r : Nat) : Bool := sortC (cbB B n r) == s
theorem isS_t {B : Nat → Nat} {n s r : Nat} (h : sortC (cbB B n r) = s) : isSo B n s r = true := by unfold isSo; rw [h]; simp
theorem isS_f {B : Nat → Nat} {n s r : Nat} (h : sortC (cbB B n r) ≠ s) : ¬ isSo B n s r = true := by unfold isSo; simp [h]
theorem isS_of {B : Nat → Nat} {n s r : Nat} (h : isSo B n s r = true) : sortC (cbB B n r) = s := by unfold isSo at h; simpa using h
/-- where the token behind p begins, its sort, where it ends, its letters, its kind (0 the end, 1 no token, 2 a word, 3 a number, 4 a sign), its number -/
def tQ (B : Nat → Nat) (n p : Nat) : Nat := rE n (isSo B n 5) p
def tS (B : Nat → Nat) (n p : Nat) : Nat := sortC (cbB B n (tQ B n p))
def tE (B : Nat → Nat) (n p : Nat) : Nat := if tS B n p = 2 ∨ tS B n p = 3 then rE n (isSo B n (tS B n p)) (tQ B n p) else if tS B n p = 0 then tQ B n p else tQ B n p + 1
def tC (B : Nat → Nat) (n p : Nat) : Nat := cbB B n (tQ B n p)
def lsB (B : Nat → Nat) (n q e : Nat) : List Nat := (List.range (e - q)).map (fun i => cbB B n (q + i))
def tL (B : Nat → Nat) (n p : Nat) : List Nat := lsB B n (tQ B n p) (tE B n p)
def tK (B : Nat → Nat) (n p : Nat) : Nat := if (tS B n p = 2 ∧ 8 < tE B n p - tQ B n p) ∨ (tS B n p = 3 ∧ (4 < tE B n p - tQ B n p ∨ sortC (cbB B n (tE B n p)) = 2)) then 1 else tS B n p
def dvL (L : List Nat) : Nat := L.foldl (fun a c => 10 * a + (c - 48)) 0
def tV (B : Nat → Nat) (n p : Nat) : Nat := dvL (tL B n p)
theorem lsB_0 (B : Nat → Nat) (n q : Nat) : lsB B n q q = [] := by unfold lsB; rw [Nat.sub_self]; rfl
theorem lsB_s {B : Nat → Nat} {n q e : Nat} (h : q ≤ e) : lsB B n q (e + 1) = lsB B n q e ++ [cbB B n e] := by
  unfold lsB
  rw [show e + 1 - q = (e - q) + 1 by omega, List.range_succ, List.map_append, List.map_singleton, show q + (e - q) = e by omega]
theorem lsB_len {B : Nat → Nat} {n q e : Nat} : (lsB B n q e).length = e - q := by simp [lsB]
theorem lsB_mem {B : Nat → Nat} {n q e c : Nat} (h : c ∈ lsB B n q e) : ∃ r, q ≤ r ∧ r < e ∧ cbB B n r = c := by
  unfold lsB at h
  obtain ⟨i, hi, rfl⟩ := List.mem_map.mp h
  exact ⟨q + i, by omega, by have := List.mem_range.mp hi; omega, rfl⟩
theorem sort_0 {c : Nat} (h : sortC c = 0) : c = 256 := by
  unfold sortC at h
  repeat' split at h
  all_goals first | assumption | omega
theorem sort_2 {c : Nat} : sortC c = 2 ↔ 97 ≤ c ∧ c ≤ 122 := by
  unfold sortC
  constructor
  · intro h
    repeat' split at h
    all_goals first | assumption | omega
  · intro h
    rw [if_neg (by omega), if_neg (by omega), if_pos h]
theorem sort_3 {c : Nat} : sortC c = 3 ↔ 48 ≤ c ∧ c ≤ 57 := by
  unfold sortC
  constructor
  · intro h
    repeat' split at h
    all_goals first | assumption | omega
  · intro h
    rw [if_neg (by omega), if_neg (by omega), if_neg (by omega), if_pos h]
theorem sort_5 {c : Nat} : sortC c = 5 ↔ c = 32 ∨ c = 10 := by
  unfold sortC
  constructor
  · intro h
    repeat' split at h
    all_goals first | assumption | omega
  · intro h
    rw [if_neg (by omega), if_pos h]
theorem sort_4 {c : Nat} : sortC c = 4 ↔ sgB c = true := by
  have k : sgB c = true → c ≠ 256 ∧ ¬ (c = 32 ∨ c = 10) ∧ ¬ (97 ≤ c ∧ c ≤ 122) ∧ ¬ (48 ≤ c ∧ c ≤ 57) := by
    intro h
    simp only [sgB, Bool.or_eq_true, beq_iff_eq] at h
    omega
  unfold sortC
  constructor
  · intro h
    repeat' split at h
    all_goals first | assumption | omega
  · intro h
    obtain ⟨a, b, d, e⟩ := k h
    rw [if_neg a, if_neg b, if_neg d, if_neg e, if_pos h]
theorem sort_le (c : Nat) : sortC c ≤ 5 := by
  unfold sortC
  repeat' split
  all_goals omega
theorem sgB_lt {c : Nat} (h : sgB c = true) : c ≤ 62 ∧ 37 ≤ c := by
  simp only [sgB, Bool.or_eq_true, beq_iff_eq] at h
  omega
theorem cbB_e {B : Nat → Nat} {n p : Nat} (h : n ≤ p) : cbB B n p = 256 := by unfold cbB; rw [if_neg (by omega)]
theorem cbB_i {B : Nat → Nat} {n p : Nat} (h : p < n) : cbB B n p = B p := by unfold cbB; rw [if_pos h]
theorem sort_e {B : Nat → Nat} {n p : Nat} (h : n ≤ p) : sortC (cbB B n p) = 0 := by rw [cbB_e h]; rfl
theorem sort_in {B : Nat → Nat} {n p : Nat} (h : sortC (cbB B n p) ≠ 0) : p < n := by
  rcases Nat.lt_or_ge p n with q | q
  · exact q
  · exact absurd (sort_e q) h
/-- the token's place -/
theorem tQ_b {B : Nat → Nat} {n p : Nat} (hp : p ≤ n) : p ≤ tQ B n p ∧ tQ B n p ≤ n ∧ sortC (cbB B n (tQ B n p)) ≠ 5 := by
  obtain ⟨a, b, -, e⟩ := rE_b (P := isSo B n 5) hp
  refine ⟨a, b, fun h => ?_⟩
  rcases Nat.lt_or_ge (tQ B n p) n with q | q
  · exact e q (isS_t h)
  · rw [sort_e q] at h; omega
theorem tS_le {B : Nat → Nat} {n p : Nat} (hp : p ≤ n) : tS B n p ≤ 4 := by
  have h1 := sort_le (cbB B n (tQ B n p))
  have h2 := (tQ_b (B := B) hp).2.2
  unfold tS
  omega
theorem tE_b {B : Nat → Nat} {n p : Nat} (hp : p ≤ n) : tQ B n p ≤ tE B n p ∧ tE B n p ≤ n := by
  obtain ⟨h1, h2, h3⟩ := tQ_b (B := B) hp
  unfold tE
  by_cases c : tS B n p = 2 ∨ tS B n p = 3
  · rw [if_pos c]
    obtain ⟨a, b, -, -⟩ := rE_b (P := isSo B n (tS B n p)) h2
    exact ⟨a, b⟩
  · rw [if_neg c]
    by_cases c0 : tS B n p = 0
    · rw [if_pos c0]; exact ⟨Nat.le_refl _, h2⟩
    · rw [if_neg c0]
      have := sort_in c0
      omega
theorem tK_le {B : Nat → Nat} {n p : Nat} (hp : p ≤ n) : tK B n p ≤ 4 := by
  have := tS_le (B := B) hp
  unfold tK
  split <;> omega
/-- a token that is there takes room -/
theorem tE_lt {B : Nat → Nat} {n p : Nat} (hp : p ≤ n) (h : tK B n p ≠ 0) : tQ B n p < tE B n p := by
  obtain ⟨h1, h2, h3⟩ := tQ_b (B := B) hp
  have h0 : tS B n p ≠ 0 := fun e => h (by unfold tK; rw [e]; simp)
  have hl := sort_in h0
  unfold tE
  by_cases c : tS B n p = 2 ∨ tS B n p = 3
  · rw [if_pos c, rE_y hl (isS_t (s := tS B n p) rfl)]
    have := (rE_b (n := n) (P := isSo B n (tS B n p)) (p := tQ B n p + 1) (by omega)).1
    omega
  · rw [if_neg c, if_neg h0]
    omega
/-- the letters of a long token -/
theorem tL_s {B : Nat → Nat} {n p : Nat} (hp : p ≤ n) (h : tS B n p = 2 ∨ tS B n p = 3) {c : Nat} (hc : c ∈ tL B n p) : sortC c = tS B n p := by
  obtain ⟨r, a, b, rfl⟩ := lsB_mem hc
  have e : tE B n p = rE n (isSo B n (tS B n p)) (tQ B n p) := by unfold tE; rw [if_pos h]
  rw [e] at b
  exact isS_of ((rE_b (P := isSo B n (tS B n p)) (tQ_b hp).2.1).2.2.1 r a b)
theorem tK_2 {B : Nat → Nat} {n p : Nat} (h : tK B n p = 2) : tS B n p = 2 ∧ tE B n p - tQ B n p ≤ 8 := by
  unfold tK at h
  split at h
  · omega
  · rename_i c
    exact ⟨h, by omega⟩
theorem tK_3 {B : Nat → Nat} {n p : Nat} (h : tK B n p = 3) : tS B n p = 3 ∧ tE B n p - tQ B n p ≤ 4 ∧ sortC (cbB B n (tE B n p)) ≠ 2 := by
  unfold tK at h
  split at h
  · omega
  · rename_i c
    exact ⟨h, by omega, by omega⟩
theorem tK_4 {B : Nat → Nat} {n p : Nat} (h : tK B n p = 4) : sgB (tC B n p) = true := by
  unfold tK at h
  split at h
  · omega
  · exact sort_4.mp h
theorem tK_of4 {B : Nat → Nat} {n p : Nat} (h : sgB (tC B n p) = true) : tK B n p = 4 := by
  have e : tS B n p = 4 := sort_4.mpr h
  unfold tK
  rw [e, if_neg (by omega)]
theorem tK_0 {B : Nat → Nat} {n p : Nat} : tK B n p = 0 ↔ tS B n p = 0 := by
  unfold tK
  split <;> omega
/-- a list of letters, eight at most -/
def okW (L : List Nat) : Prop := L.length ≤ 8 ∧ ∀ c, c ∈ L → 97 ≤ c ∧ c ≤ 122
theorem tL_ok {B : Nat → Nat} {n p : Nat} (hp : p ≤ n) (h : tK B n p = 2) : okW (tL B n p) := by
  obtain ⟨a, b⟩ := tK_2 h
  exact ⟨by unfold tL; rw [lsB_len]; exact b, fun c hc => sort_2.mp ((tL_s hp (Or.inl a) hc).trans a)⟩
/-! words as longs: base 32, base 256 -/
def nuL (b o : Nat) (L : List Nat) : Nat := L.foldl (fun a c => a * b + (c - o)) 0
theorem nuL_s (b o : Nat) (L : List Nat) (c : Nat) : nuL b o (L ++ [c]) = nuL b o L * b + (c - o) := by
  unfold nuL
  rw [List.foldl_append]; rfl
theorem snocI {P : List Nat → Prop} (h0 : P []) (h1 : ∀ L c, P L → P (L ++ [c])) : ∀ L, P L := fun L => by
  rw [← List.reverse_reverse L]
  induction L.reverse with
  | nil => exact h0
  | cons c M ih => rw [List.reverse_cons]; exact h1 _ _ ih
theorem nuL_lt {b o : Nat} : ∀ L : List Nat, (∀ c, c ∈ L → c - o < b) → nuL b o L < b ^ L.length := by
  refine snocI (fun _ => by simp [nuL]) (fun L c ih h => ?_)
  rw [nuL_s, List.length_append, List.length_singleton, Nat.pow_succ]
  have h1 := ih (fun x hx => h x (List.mem_append_left _ hx))
  have h2 := h c (by simp)
  calc nuL b o L * b + (c - o) < nuL b o L * b + b := by omega
    _ = (nuL b o L + 1) * b := by rw [Nat.add_mul, Nat.one_mul]
    _ ≤ b ^ L.length * b := Nat.mul_le_mul_right _ h1
theorem snocC (L : List Nat) : L = [] ∨ ∃ M c, L = M ++ [c] := snocI (P := fun L => L = [] ∨ ∃ M c, L = M ++ [c]) (Or.inl rfl) (fun L c _ => Or.inr ⟨L, c, rfl⟩) L
theorem nuL_inj {b o : Nat} (hb : ∀ x y u v : Nat, u < b → v < b → x * b + u = y * b + v → x = y ∧ u = v) : ∀ L : List Nat, (∀ c, c ∈ L → o < c ∧ c - o < b) → ∀ L', (∀ c, c ∈ L' → o < c ∧ c - o < b) → nuL b o L = nuL b o L' → L = L' := by
  refine snocI (fun _ L' h' e => ?_) (fun L c ih h L' h' e => ?_)
  · rcases snocC L' with rfl | ⟨M, d, rfl⟩
    · rfl
    · rw [nuL_s] at e
      have := h' d (by simp)
      have e0 : nuL b o [] = 0 := rfl
      rw [e0] at e
      omega
  · rcases snocC L' with rfl | ⟨M, d, rfl⟩
    · rw [nuL_s] at e
      have := h c (by simp)
      have e0 : nuL b o [] = 0 := rfl
      rw [e0] at e
      omega
    · rw [nuL_s, nuL_s] at e
      have k1 := h c (by simp)
      have k2 := h' d (by simp)
      obtain ⟨e1, e2⟩ := hb _ _ _ _ k1.2 k2.2 e
      rw [ih (fun x hx => h x (List.mem_append_left _ hx)) M (fun x hx => h' x (List.mem_append_left _ hx)) e1, show c = d by omega]
/-- the class's word, the model's -/
def cwJ (L : List Nat) : Int64 := L.foldl (fun a c => a * 32 + (nI c - nI 97 + nI 1).toInt64) 0
def mwJ (L : List Nat) : Int64 := L.foldl (fun a c => (a <<< ((nI 8).toInt64 &&& 63)) ||| (nI c).toInt64) 0
theorem cwJ_s (L : List Nat) (c : Nat) : cwJ (L ++ [c]) = cwJ L * 32 + (nI c - nI 97 + nI 1).toInt64 := by unfold cwJ; rw [List.foldl_append]; rfl
theorem mwJ_s (L : List Nat) (c : Nat) : mwJ (L ++ [c]) = (mwJ L <<< ((nI 8).toInt64 &&& 63)) ||| (nI c).toInt64 := by unfold mwJ; rw [List.foldl_append]; rfl
theorem cw_d {c : Nat} (h1 : 97 ≤ c) (h2 : c ≤ 122) : (nI c - nI 97 + nI 1).toInt64 = Int64.ofNat (c - 96) := (by decide +kernel : ∀ c, c ≤ 122 → 97 ≤ c → (nI c - nI 97 + nI 1).toInt64 = Int64.ofNat (c - 96)) c h2 h1
theorem mw_d {c : Nat} (h2 : c ≤ 122) : (nI c).toInt64 = Int64.ofNat c := (by decide +kernel : ∀ c, c ≤ 122 → (nI c).toInt64 = Int64.ofNat c) c h2
theorem cwJ_n : ∀ L : List Nat, (∀ c, c ∈ L → 97 ≤ c ∧ c ≤ 122) → cwJ L = Int64.ofNat (nuL 32 96 L) := by
  refine snocI (fun _ => rfl) (fun L c ih h => ?_)
  have hc := h c (by simp)
  rw [cwJ_s, nuL_s, ih (fun x hx => h x (List.mem_append_left _ hx)), cw_d hc.1 hc.2, Int64.ofNat_add, Int64.ofNat_mul]
  rfl
theorem mw_st {a c : Nat} (ha : a < 2 ^ 56) (hc : c < 256) : (Int64.ofNat a <<< ((nI 8).toInt64 &&& 63)) ||| Int64.ofNat c = Int64.ofNat (a * 256 + c) := by
  apply Int64.toBitVec_inj.mp
  rw [Int64.toBitVec_or, Int64.toBitVec_shiftLeft]
  apply BitVec.eq_of_toNat_eq
  have e8 : ((nI 8).toInt64 &&& 63).toBitVec.smod 64 = 8#64 := by decide +kernel
  rw [e8]
  show ((BitVec.ofNat 64 a <<< (8#64)) ||| BitVec.ofNat 64 c).toNat = (BitVec.ofNat 64 (a * 256 + c)).toNat
  rw [BitVec.toNat_or, BitVec.toNat_ofNat, BitVec.toNat_ofNat, Nat.mod_eq_of_lt (by omega : c < 2 ^ 64), Nat.mod_eq_of_lt (by omega : a * 256 + c < 2 ^ 64)]
  have e : (BitVec.ofNat 64 a <<< (8#64)).toNat = a <<< 8 := by
    show (BitVec.ofNat 64 a <<< 8).toNat = _
    rw [BitVec.toNat_shiftLeft, BitVec.toNat_ofNat, Nat.mod_eq_of_lt (by omega : a < 2 ^ 64), Nat.mod_eq_of_lt]
    rw [Nat.shiftLeft_eq]; omega
  rw [e, ← Nat.shiftLeft_add_eq_or_of_lt (by omega : c < 2 ^ 8), Nat.shiftLeft_eq]
theorem mwJ_n : ∀ L : List Nat, L.length ≤ 8 → (∀ c, c ∈ L → 97 ≤ c ∧ c ≤ 122) → mwJ L = Int64.ofNat (nuL 256 0 L) := by
  refine snocI (fun _ _ => rfl) (fun L c ih hl h => ?_)
  rw [List.length_append, List.length_singleton] at hl
  have hc := h c (by simp)
  have hL : ∀ x, x ∈ L → 97 ≤ x ∧ x ≤ 122 := fun x hx => h x (List.mem_append_left _ hx)
  have hb := nuL_lt (b := 256) (o := 0) L (fun x hx => by have := hL x hx; omega)
  have hp : (256 : Nat) ^ L.length ≤ 256 ^ 7 := Nat.pow_le_pow_right (by omega) (by omega)
  rw [mwJ_s, nuL_s, ih (by omega) hL, mw_d hc.2, mw_st (by omega) (by omega)]
  rfl
theorem ofJ_inj {a b : Nat} (ha : a < 2 ^ 64) (hb : b < 2 ^ 64) (h : Int64.ofNat a = Int64.ofNat b) : a = b := by
  have := congrArg Int64.toBitVec h
  have e : (BitVec.ofNat 64 a).toNat = (BitVec.ofNat 64 b).toNat := congrArg BitVec.toNat this
  rw [BitVec.toNat_ofNat, BitVec.toNat_ofNat, Nat.mod_eq_of_lt (by omega), Nat.mod_eq_of_lt (by omega)] at e
  exact e
theorem cwJ_inj {L L' : List Nat} (h : okW L) (h' : okW L') : cwJ L = cwJ L' ↔ L = L' := by
  refine ⟨fun e => ?_, fun e => by rw [e]⟩
  rw [cwJ_n L h.2, cwJ_n L' h'.2] at e
  have k : ∀ M : List Nat, okW M → nuL 32 96 M < 2 ^ 64 := fun M hM => by
    have h1 := nuL_lt (b := 32) (o := 96) M (fun x hx => by have := hM.2 x hx; omega)
    have h2 : (32 : Nat) ^ M.length ≤ 32 ^ 8 := Nat.pow_le_pow_right (by omega) hM.1
    omega
  exact nuL_inj (b := 32) (o := 96) (fun x y u v a b q => by omega) L (fun x hx => by have := h.2 x hx; omega) L' (fun x hx => by have := h'.2 x hx; omega) (ofJ_inj (k L h) (k L' h') e)
theorem mwJ_inj {L L' : List Nat} (h : okW L) (h' : okW L') : mwJ L = mwJ L' ↔ L = L' := by
  refine ⟨fun e => ?_, fun e => by rw [e]⟩
  rw [mwJ_n L h.1 h.2, mwJ_n L' h'.1 h'.2] at e
  have k : ∀ M : List Nat, okW M → nuL 256 0 M < 2 ^ 64 := fun M hM => by
    rcases snocC M with rfl | ⟨N, c, rfl⟩
    · simp [nuL]
    · have hl := hM.1
      rw [List.length_append, List.length_singleton] at hl
      have h1 := nuL_lt (b := 256) (o := 0) N (fun x hx => by have := hM.2 x (List.mem_append_left _ hx); omega)
      have h2 : (256 : Nat) ^ N.length ≤ 256 ^ 7 := Nat.pow_le_pow_right (by omega) (by omega)
      have h3 := hM.2 c (by simp)
      rw [nuL_s]
      omega
  exact nuL_inj (b := 256) (o := 0) (fun x y u v a b q => by omega) L (fun x hx => by have := h.2 x hx; omega) L' (fun x hx => by have := h'.2 x hx; omega) (ofJ_inj (k L h) (k L' h') e)
/-! numbers of four digits -/
def cvI (L : List Nat) : Int32 := L.foldl (fun a c => a * nI 10 + nI c - nI 48) (nI 0)
theorem cvI_s (L : List Nat) (c : Nat) : cvI (L ++ [c]) = cvI L * nI 10 + nI c - nI 48 := by unfold cvI; rw [List.foldl_append]; rfl
theorem dvL_s (L : List Nat) (c : Nat) : dvL (L ++ [c]) = 10 * dvL L + (c - 48) := by unfold dvL; rw [List.foldl_append]; rfl
theorem cvI_n : ∀ L : List Nat, (∀ c, c ∈ L → 48 ≤ c ∧ c ≤ 57) → cvI L = nI (dvL L) := by
  refine snocI (fun _ => rfl) (fun L c ih h => ?_)
  have hc := h c (by simp)
  rw [cvI_s, dvL_s, ih (fun x hx => h x (List.mem_append_left _ hx)), nI_mul, nI_add, nI_subN (by omega)]
  congr 1
  omega
theorem dvL_lt : ∀ L : List Nat, (∀ c, c ∈ L → 48 ≤ c ∧ c ≤ 57) → dvL L < 10 ^ L.length := by
  refine snocI (fun _ => by simp [dvL]) (fun L c ih h => ?_)
  have hc := h c (by simp)
  have h1 := ih (fun x hx => h x (List.mem_append_left _ hx))
  rw [dvL_s, List.length_append, List.length_singleton, Nat.pow_succ]
  omega
theorem tV_lt {B : Nat → Nat} {n p : Nat} (hp : p ≤ n) (h : tK B n p = 3) : tV B n p ≤ 9999 := by
  obtain ⟨a, b, -⟩ := tK_3 h
  have h1 := dvL_lt (tL B n p) (fun c hc => sort_3.mp ((tL_s hp (Or.inr a) hc).trans a))
  have h2 : (10 : Nat) ^ (tL B n p).length ≤ 10 ^ 4 := Nat.pow_le_pow_right (by omega) (by unfold tL; rw [lsB_len]; exact b)
  unfold tV
  omega
