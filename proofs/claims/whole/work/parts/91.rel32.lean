/-! the grammar of formulas: a state is a fault and its place, or where the token ahead begins, the steps so far, the units so far -/
abbrev pPS : Type := (Nat × Nat) ⊕ (Nat × pP × Nat)
def adS (q : Nat × Nat) : pPS → pPS
  | .inl e => .inl e
  | .inr s => .inr (s.1, s.2.1 ++ [q], s.2.2)
def liS (o : pP) (u : Nat) : pRS → pPS
  | .inl e => .inl e
  | .inr p => .inr (p, o, u)
def stS (B : Nat → Nat) (n : Nat) : pPS → pPS
  | .inl e => .inl e
  | .inr s => liS s.2.1 s.2.2 (stp B n s.1)
def f2S (B : Nat → Nat) (n : Nat) : pPS → pPS
  | .inl e => .inl e
  | .inr s => .inl (2, tQ B n s.1)
def ngS (B : Nat → Nat) (n c : Nat) : pPS → pPS
  | .inl e => .inl e
  | .inr s => liS s.2.1 s.2.2 (nxG B n c (.inr s.1))
def isOp (c : Nat) : Bool := c == 60 || c == 62 || c == 61 || c == 43 || c == 45 || c == 42 || c == 47 || c == 37
def mSg (B : Nat → Nat) (n p : Nat) : Nat := if tkWb B n p 15 = true then 38 else if tkWb B n p 16 = true then 124 else if tK B n p = 4 ∧ isOp (tC B n p) = true then tC B n p else 0
def tgt (c : Nat) : Nat := if c = 124 then 1 else if c = 38 then 2 else if c = 21 then 3 else if c = 60 ∨ c = 62 ∨ c = 61 then 4 else if c = 43 ∨ c = 45 then 5 else 6
def tgP (B : Nat → Nat) (n p : Nat) : Nat := if mSg B n p = 0 then 0 else tgt (mSg B n p)
def cTS (B : Nat → Nat) (n t : Nat) : pPS → Option Nat
  | .inl _ => none
  | .inr s => if tgP B n s.1 = t then some (mSg B n s.1) else none
def lpS (B : Nat → Nat) (n t : Nat) (U : pPS → pPS) : Nat → pPS → pPS
  | 0, s => s
  | m + 1, s => match cTS B n t s with
    | some c => lpS B n t U m (adS (c, 0) (U (stS B n s)))
    | none => s
def mesN (B : Nat → Nat) (n p : Nat) : Nat := if tkWb B n p 1 = true then 1 else if tkWb B n p 7 = true then 2 else if tkWb B n p 12 = true then 3 else if tkWb B n p 13 = true then 4 else if tkWb B n p 14 = true then 5 else if tkWb B n p 2 = true then 6 else 0
def lfN (B : Nat → Nat) (n p : Nat) : Option (Nat × Nat) := if tK B n p = 3 then some (0, tV B n p) else if mesN B n p = 0 then none else some (mesN B n p, 0)
def unS (B : Nat → Nat) (n : Nat) (BR : pPS → pPS) : pPS → pPS
  | .inl e => .inl e
  | .inr s => if 30 ≤ s.2.2 then .inl (2, tQ B n s.1) else if tkGb B n s.1 40 = true then BR (.inr (s.1, s.2.1, s.2.2 + 1)) else match lfN B n s.1 with
    | some q => stS B n (.inr (s.1, s.2.1 ++ [q], s.2.2 + 1))
    | none => .inl (2, tQ B n s.1)
def teS (B : Nat → Nat) (n : Nat) (U : pPS → pPS) (s : pPS) : pPS := lpS B n 6 U 30 (U s)
def suS (B : Nat → Nat) (n : Nat) (U : pPS → pPS) (s : pPS) : pPS := lpS B n 5 (teS B n U) 30 (teS B n U s)
def re2 (B : Nat → Nat) (n : Nat) (U : pPS → pPS) (s1 : pPS) : pPS := match cTS B n 4 s1 with
  | some c => adS (c, 0) (suS B n U (stS B n s1))
  | none => s1
def reS (B : Nat → Nat) (n : Nat) (U : pPS → pPS) (s : pPS) : pPS := re2 B n U (suS B n U s)
def boS (B : Nat → Nat) (n : Nat) (O : pPS → pPS) (s : pPS) : pPS := lpS B n 2 O 30 (O s)
def eiS (B : Nat → Nat) (n : Nat) (O : pPS → pPS) (s : pPS) : pPS := lpS B n 1 (boS B n O) 30 (boS B n O s)
def isNt (B : Nat → Nat) (n : Nat) : pPS → Bool
  | .inl _ => false
  | .inr s => tkWb B n s.1 11
def onS (B : Nat → Nat) (n : Nat) (U N : pPS → pPS) (s : pPS) : pPS := if isNt B n s = true then N s else reS B n U s
def ONr (B : Nat → Nat) (n : Nat) : Nat → pPS → pPS
  | 0 => onS B n (unS B n (f2S B n)) (f2S B n)
  | r + 1 => onS B n (unS B n (fun s => ngS B n 41 (eiS B n (ONr B n r) (stS B n s)))) (fun s => adS (7, 0) (ONr B n r (stS B n s)))
def BRr (B : Nat → Nat) (n : Nat) : Nat → pPS → pPS
  | 0 => f2S B n
  | r + 1 => fun s => ngS B n 41 (eiS B n (ONr B n r) (stS B n s))
def NTr (B : Nat → Nat) (n : Nat) : Nat → pPS → pPS
  | 0 => f2S B n
  | r + 1 => fun s => adS (7, 0) (ONr B n r (stS B n s))
theorem ONr_eq (B : Nat → Nat) (n r : Nat) : ONr B n r = onS B n (unS B n (BRr B n r)) (NTr B n r) := by cases r <;> rfl
/-! what signs there are -/
theorem isOp_in {c : Nat} (h : isOp c = true) : c = 60 ∨ c = 62 ∨ c = 61 ∨ c = 43 ∨ c = 45 ∨ c = 42 ∨ c = 47 ∨ c = 37 := by
  simpa [isOp, or_assoc] using h
theorem tkWb_k {B : Nat → Nat} {n p i : Nat} (h : tkWb B n p i = true) : tK B n p = 2 := (tkWb_i.mp h).1
theorem tkGb_k {B : Nat → Nat} {n p c : Nat} (h : tkGb B n p c = true) : tK B n p = 4 ∧ tC B n p = c := by simpa [tkGb] using h
theorem mSg_in {B : Nat → Nat} {n p : Nat} (h : mSg B n p ≠ 0) : (mSg B n p = 38 ∧ tK B n p = 2) ∨ (mSg B n p = 124 ∧ tK B n p = 2) ∨ (tK B n p = 4 ∧ tC B n p = mSg B n p ∧ isOp (mSg B n p) = true) := by
  unfold mSg at h ⊢
  by_cases a : tkWb B n p 15 = true
  · rw [if_pos a]; exact Or.inl ⟨rfl, tkWb_k a⟩
  · rw [if_neg a] at h ⊢
    by_cases b : tkWb B n p 16 = true
    · rw [if_pos b]; exact Or.inr (Or.inl ⟨rfl, tkWb_k b⟩)
    · rw [if_neg b] at h ⊢
      by_cases d : tK B n p = 4 ∧ isOp (tC B n p) = true
      · rw [if_pos d]; exact Or.inr (Or.inr ⟨d.1, rfl, d.2⟩)
      · rw [if_neg d] at h; exact absurd rfl h
theorem mSg_n {B : Nat → Nat} {n p : Nat} (h : mSg B n p ≠ 0) : mSg B n p ≠ 20 ∧ mSg B n p ≠ 21 ∧ ¬ tkGb B n p 41 = true ∧ ¬ tkGb B n p 40 = true := by
  rcases mSg_in h with ⟨a, b⟩ | ⟨a, b⟩ | ⟨a, b, d⟩
  · exact ⟨by omega, by omega, fun q => by have := (tkGb_k q).1; omega, fun q => by have := (tkGb_k q).1; omega⟩
  · exact ⟨by omega, by omega, fun q => by have := (tkGb_k q).1; omega, fun q => by have := (tkGb_k q).1; omega⟩
  · have e := isOp_in d
    exact ⟨by omega, by omega, fun q => by have := (tkGb_k q).2; omega, fun q => by have := (tkGb_k q).2; omega⟩
theorem tgt_b (c : Nat) : 1 ≤ tgt c ∧ tgt c ≤ 6 := by
  unfold tgt
  repeat' split
  all_goals omega
theorem tgt_3 {c : Nat} (h : c ≠ 21) : tgt c ≠ 3 := by
  unfold tgt
  repeat' split
  all_goals omega
theorem tgP_c (B : Nat → Nat) (n p : Nat) : tgP B n p ≤ 6 ∧ tgP B n p ≠ 3 := by
  unfold tgP
  split
  · omega
  · rename_i h
    exact ⟨(tgt_b _).2, tgt_3 (mSg_n h).2.1⟩
theorem tgP_0 {B : Nat → Nat} {n p : Nat} : tgP B n p = 0 ↔ mSg B n p = 0 := by
  unfold tgP
  split
  · simp [*]
  · have := tgt_b (mSg B n p)
    constructor
    · intro; omega
    · intro; contradiction
theorem tgP_t {B : Nat → Nat} {n p : Nat} (h : mSg B n p ≠ 0) : tgP B n p = tgt (mSg B n p) := by unfold tgP; rw [if_neg h]
theorem cTS_s {B : Nat → Nat} {n t c : Nat} {s : pPS} (h : cTS B n t s = some c) : ∃ x, s = .inr x ∧ tgP B n x.1 = t ∧ mSg B n x.1 = c := by
  cases s with
  | inl e => cases h
  | inr x =>
    simp only [cTS] at h
    split at h
    · cases h; exact ⟨x, rfl, by assumption, rfl⟩
    · cases h
theorem cTS_n {B : Nat → Nat} {n t : Nat} {x : Nat × pP × Nat} (h : cTS B n t (.inr x) = none) : tgP B n x.1 ≠ t := by
  simp only [cTS] at h
  split at h
  · cases h
  · assumption
theorem stS_i {B : Nat → Nat} {n : Nat} {x y : Nat × pP × Nat} (h : stS B n (.inr x) = .inr y) : y.1 = tE B n x.1 ∧ y.2 = x.2 ∧ tK B n y.1 ≠ 1 := by
  simp only [stS] at h
  cases e : stp B n x.1 with
  | inl a => rw [e] at h; cases h
  | inr p =>
    rw [e] at h
    simp only [liS] at h
    cases h
    exact ⟨(stp_in e).1, rfl, (stp_in e).2⟩
/-! what a part of a formula adds: steps that go through, units -/
def wfx (w : pP) (k : Nat) : Prop := ∀ (d : Nat) (q : pP), d + k ≤ 32 → wfp q (d + 1) → wfp (w ++ q) d
def okO (w : pP) : Prop := ∀ q, q ∈ w → q.1 ≤ 200 ∧ q.2 ≤ 9999
def Rr (n : Nat) (y x : Nat × pP × Nat) : Prop := (y.2.2 < x.2.2 ∧ x.2.2 ≤ 30) ∧ (y.1 ≤ n → x.1 ≤ n ∧ y.1 ≤ x.1) ∧ ∃ w, x.2.1 = y.2.1 ++ w ∧ wfx w (x.2.2 - y.2.2) ∧ (y.1 ≤ n → okO w)
def gU (n : Nat) (U : pPS → pPS) : Prop := ∀ s x, U s = .inr x → ∃ y, s = .inr y ∧ Rr n y x
theorem wfx.mono {w : pP} {k k' : Nat} (h : wfx w k) (hk : k ≤ k') : wfx w k' := fun d q a b => h d q (by omega) b
theorem wfx.bin {w v : pP} {k k' c : Nat} (h : wfx w k) (h' : wfx v k') (hk : 1 ≤ k) (hc : isSg c) : wfx (w ++ v ++ [(c, 0)]) (k + k') := fun d q a b => by
  rw [List.append_assoc, List.append_assoc]
  refine h d _ (by omega) (h' (d + 1) _ (by omega) ?_)
  show wfp ((c, 0) :: q) (d + 1 + 1)
  exact Or.inr (Or.inr ⟨hc, by omega, b⟩)
theorem wfx.nt {w : pP} {k : Nat} (h : wfx w k) : wfx (w ++ [(7, 0)]) k := fun d q a b => by
  rw [List.append_assoc]
  refine h d _ a ?_
  show wfp ((7, 0) :: q) (d + 1)
  exact Or.inr (Or.inl ⟨rfl, by omega, b⟩)
theorem wfx.lf {q0 : Nat × Nat} (h : q0.1 ≤ 6) : wfx [q0] 1 := fun d q a b => Or.inl ⟨h, a, b⟩
theorem okO.app {w v : pP} (h : okO w) (h' : okO v) : okO (w ++ v) := fun q hq => by
  rcases List.mem_append.mp hq with a | a
  · exact h q a
  · exact h' q a
theorem okO.one {q : Nat × Nat} (h : q.1 ≤ 200 ∧ q.2 ≤ 9999) : okO [q] := fun x hx => by
  rw [List.mem_singleton] at hx
  rw [hx]; exact h
theorem mSg_sg {B : Nat → Nat} {n p : Nat} (h : mSg B n p ≠ 0) : isSg (mSg B n p) ∧ mSg B n p ≤ 200 := by
  unfold isSg
  rcases mSg_in h with ⟨a, b⟩ | ⟨a, b⟩ | ⟨a, b, d⟩
  · omega
  · omega
  · have e := isOp_in d
    omega
theorem tQ_le {B : Nat → Nat} {n p : Nat} (hp : p ≤ n) : p ≤ tE B n p ∧ tE B n p ≤ n := by
  have a := (tQ_b (B := B) hp).1
  have b := tE_b (B := B) hp
  omega
/-- y to z, a token on, z1 behind it, and a sign -/
theorem Rr.bin {B : Nat → Nat} {n c : Nat} {y z z' z1 : Nat × pP × Nat} (h : Rr n y z) (hs : stS B n (.inr z) = .inr z') (h' : Rr n z' z1) (hc : isSg c ∧ c ≤ 200) : Rr n y (z1.1, z1.2.1 ++ [(c, 0)], z1.2.2) := by
  obtain ⟨a1, a2, w, a3, a4, a5⟩ := h
  obtain ⟨b1, b2, v, b3, b4, b5⟩ := h'
  obtain ⟨e1, e2, -⟩ := stS_i hs
  rw [e2] at b1 b3 b4
  rw [e1] at b2 b5
  refine ⟨⟨by show y.2.2 < z1.2.2; omega, b1.2⟩, fun hy => ?_, w ++ v ++ [(c, 0)], ?_, ?_, fun hy => ?_⟩
  · have := a2 hy
    have t := tQ_le (B := B) this.1
    have := b2 t.2
    exact ⟨this.1, by show y.1 ≤ z1.1; omega⟩
  · show z1.2.1 ++ [(c, 0)] = _
    rw [b3, a3, List.append_assoc, List.append_assoc, List.append_assoc]
  · show wfx _ (z1.2.2 - y.2.2)
    have := wfx.bin a4 b4 (by omega) hc.1
    rw [show z1.2.2 - y.2.2 = (z.2.2 - y.2.2) + (z1.2.2 - z.2.2) by omega]
    exact this
  · have := a2 hy
    have t := tQ_le (B := B) this.1
    exact ((a5 hy).app (b5 t.2)).app (okO.one ⟨hc.2, by omega⟩)
theorem lpS_e {B : Nat → Nat} {n t : Nat} {U : pPS → pPS} {e : Nat × Nat} (m : Nat) : lpS B n t U m (.inl e) = .inl e := by cases m <;> rfl
theorem lpS_g {B : Nat → Nat} {n t : Nat} {U : pPS → pPS} (hU : gU n U) (ht : 1 ≤ t) : ∀ (m : Nat) (y z x : Nat × pP × Nat), Rr n y z → 30 < z.2.2 + m → lpS B n t U m (.inr z) = .inr x → Rr n y x ∧ tgP B n x.1 ≠ t := by
  intro m
  induction m with
  | zero => intro y z x h hm _; have := h.1.2; omega
  | succ m ih =>
    intro y z x h hm e
    simp only [lpS] at e
    cases hc : cTS B n t (.inr z) with
    | none => rw [hc] at e; cases e; exact ⟨h, cTS_n hc⟩
    | some c =>
      rw [hc] at e
      simp only at e
      obtain ⟨z0, e0, h0, h1⟩ := cTS_s hc
      cases e0
      have hm0 : mSg B n z.1 ≠ 0 := fun q => by have := tgP_0.mpr q; omega
      cases hs : stS B n (.inr z) with
      | inl b =>
        rw [hs] at e
        cases hu : U (.inl b) with
        | inl b2 => rw [hu] at e; rw [show adS (c, 0) (.inl b2) = .inl b2 from rfl, lpS_e] at e; cases e
        | inr b2 => obtain ⟨q, q1, -⟩ := hU _ _ hu; cases q1
      | inr z' =>
        rw [hs] at e
        cases hu : U (.inr z') with
        | inl b2 => rw [hu] at e; rw [show adS (c, 0) (.inl b2) = .inl b2 from rfl, lpS_e] at e; cases e
        | inr z1 =>
          rw [hu] at e
          obtain ⟨q, q1, q2⟩ := hU _ _ hu
          cases q1
          have k := h.bin (c := c) hs q2 (by rw [← h1]; exact mSg_sg hm0)
          refine ih y _ x k ?_ e
          have g1 := q2.1.1
          have g2 := (stS_i hs).2.1
          rw [g2] at g1
          show 30 < z1.2.2 + m
          omega
theorem lpS_p {B : Nat → Nat} {n t : Nat} {U : pPS → pPS} {P : Nat → Prop} (hU : ∀ s x, U s = .inr x → P x.1) : ∀ (m : Nat) (z x : Nat × pP × Nat), P z.1 → lpS B n t U m (.inr z) = .inr x → P x.1 := by
  intro m
  induction m with
  | zero => intro z x h e; cases e; exact h
  | succ m ih =>
    intro z x h e
    simp only [lpS] at e
    cases hc : cTS B n t (.inr z) with
    | none => rw [hc] at e; cases e; exact h
    | some c =>
      rw [hc] at e
      simp only at e
      cases hu : U (stS B n (.inr z)) with
      | inl b2 => rw [hu] at e; rw [show adS (c, 0) (.inl b2) = .inl b2 from rfl, lpS_e] at e; cases e
      | inr z1 => rw [hu] at e; exact ih (z1.1, z1.2.1 ++ [(c, 0)], z1.2.2) x (hU _ z1 hu) e
/-- a loop behind a part is a part -/
theorem lpU {B : Nat → Nat} {n t : Nat} {U : pPS → pPS} {P : Nat → Prop} (hU : gU n U) (ht : 1 ≤ t) (hP : ∀ s x, U s = .inr x → P x.1) : gU n (fun s => lpS B n t U 30 (U s)) ∧ ∀ s x, lpS B n t U 30 (U s) = .inr x → P x.1 ∧ tgP B n x.1 ≠ t := by
  have k : ∀ s x, lpS B n t U 30 (U s) = .inr x → ∃ y, s = .inr y ∧ Rr n y x ∧ P x.1 ∧ tgP B n x.1 ≠ t := by
    intro s x e
    cases hu : U s with
    | inl b => rw [hu, lpS_e] at e; cases e
    | inr z =>
      rw [hu] at e
      obtain ⟨y, e0, h⟩ := hU _ _ hu
      have g := lpS_g hU ht 30 y z x h (by have := h.1; omega) e
      exact ⟨y, e0, g.1, lpS_p hP 30 z x (hP _ _ hu) e, g.2⟩
  exact ⟨fun s x e => by obtain ⟨y, a, b, -⟩ := k s x e; exact ⟨y, a, b⟩, fun s x e => by obtain ⟨y, a, b, d⟩ := k s x e; exact d⟩
def qTe (B : Nat → Nat) (n : Nat) (p : Nat) : Prop := tgP B n p ≠ 6
def qSu (B : Nat → Nat) (n : Nat) (p : Nat) : Prop := tgP B n p ≠ 6 ∧ tgP B n p ≠ 5
theorem te_g {B : Nat → Nat} {n : Nat} {U : pPS → pPS} (hU : gU n U) : gU n (teS B n U) ∧ ∀ s x, teS B n U s = .inr x → qTe B n x.1 := by
  have := lpU (B := B) (t := 6) (P := fun _ => True) hU (by omega) (fun _ _ _ => trivial)
  exact ⟨this.1, fun s x e => (this.2 s x e).2⟩
theorem su_g {B : Nat → Nat} {n : Nat} {U : pPS → pPS} (hU : gU n U) : gU n (suS B n U) ∧ ∀ s x, suS B n U s = .inr x → qSu B n x.1 := by
  have h := te_g (B := B) hU
  have := lpU (B := B) (t := 5) (P := qTe B n) h.1 (by omega) h.2
  exact ⟨this.1, fun s x e => ⟨(this.2 s x e).1, (this.2 s x e).2⟩⟩
theorem re_g {B : Nat → Nat} {n : Nat} {U : pPS → pPS} (hU : gU n U) : gU n (reS B n U) ∧ ∀ s x, reS B n U s = .inr x → qSu B n x.1 := by
  have h := su_g (B := B) hU
  have k : ∀ s x, reS B n U s = .inr x → (∃ y, s = .inr y ∧ Rr n y x) ∧ qSu B n x.1 := by
    intro s x e
    unfold reS re2 at e
    cases hs : suS B n U s with
    | inl b => rw [hs] at e; cases e
    | inr z =>
      rw [hs] at e
      obtain ⟨y, e0, hy⟩ := h.1 _ _ hs
      cases hc : cTS B n 4 (.inr z) with
      | none => rw [hc] at e; cases e; exact ⟨⟨y, e0, hy⟩, h.2 _ _ hs⟩
      | some c =>
        rw [hc] at e
        simp only at e
        obtain ⟨z0, e1, h0, h1⟩ := cTS_s hc
        cases e1
        have hm0 : mSg B n z.1 ≠ 0 := fun q => by have := tgP_0.mpr q; omega
        cases hu : suS B n U (stS B n (.inr z)) with
        | inl b => rw [hu] at e; cases e
        | inr z1 =>
          rw [hu] at e
          cases e
          obtain ⟨z', e2, h2⟩ := h.1 _ _ hu
          exact ⟨⟨y, e0, hy.bin e2 h2 (by rw [← h1]; exact mSg_sg hm0)⟩, h.2 _ z1 hu⟩
  exact ⟨fun s x e => (k s x e).1, fun s x e => (k s x e).2⟩
theorem lf_ok {B : Nat → Nat} {n p : Nat} {q : Nat × Nat} (h : lfN B n p = some q) : q.1 ≤ 6 ∧ (p ≤ n → q.2 ≤ 9999) := by
  unfold lfN at h
  split at h
  · cases h; exact ⟨by omega, fun hp => tV_lt hp (by assumption)⟩
  · split at h
    · cases h
    · cases h
      refine ⟨?_, fun _ => by omega⟩
      show mesN B n p ≤ 6
      unfold mesN
      repeat' split
      all_goals omega
theorem un_g {B : Nat → Nat} {n : Nat} {BR : pPS → pPS} (hB : ∀ y x, BR (.inr y) = .inr x → Rr n y x) : gU n (unS B n BR) := by
  intro s x e
  cases s with
  | inl b => cases e
  | inr y =>
    refine ⟨y, rfl, ?_⟩
    simp only [unS] at e
    split at e
    · cases e
    · rename_i h30
      split at e
      · obtain ⟨a1, a2, w, a3, a4, a5⟩ := hB _ _ e
        simp only at a1 a2 a3 a4 a5
        exact ⟨⟨by omega, a1.2⟩, a2, w, a3, a4.mono (by omega), a5⟩
      · split at e
        · rename_i q hq
          obtain ⟨e1, e2, -⟩ := stS_i e
          simp only at e1 e2
          have k := lf_ok hq
          rw [Rr, e1, e2]
          refine ⟨⟨by simp, by show y.2.2 + 1 ≤ 30; omega⟩, fun hy => ?_, [q], rfl, ?_, fun hy => okO.one ⟨by omega, k.2 hy⟩⟩
          · have := tQ_le (B := B) hy
            exact ⟨this.2, this.1⟩
          · show wfx [q] (y.2.2 + 1 - y.2.2)
            rw [show y.2.2 + 1 - y.2.2 = 1 by omega]
            exact wfx.lf k.1
        · cases e
theorem nx_in {B : Nat → Nat} {n c p q : Nat} (h : nxG B n c (.inr p) = .inr q) : stp B n p = .inr q := by
  simp only [nxG] at h
  split at h
  · exact h
  · cases h
theorem bo_g {B : Nat → Nat} {n : Nat} {O : pPS → pPS} (h : gU n O) (hp : ∀ s x, O s = .inr x → qSu B n x.1) : gU n (boS B n O) ∧ ∀ s x, boS B n O s = .inr x → qSu B n x.1 ∧ tgP B n x.1 ≠ 2 :=
  lpU (B := B) (t := 2) (P := qSu B n) h (by omega) hp
theorem ei_g {B : Nat → Nat} {n : Nat} {O : pPS → pPS} (h : gU n O) (hp : ∀ s x, O s = .inr x → qSu B n x.1) : gU n (eiS B n O) ∧ ∀ s x, eiS B n O s = .inr x → tgP B n x.1 = 0 ∨ tgP B n x.1 = 4 := by
  have k := bo_g h hp
  have := lpU (B := B) (t := 1) (P := fun p => qSu B n p ∧ tgP B n p ≠ 2) k.1 (by omega) k.2
  refine ⟨this.1, fun s x e => ?_⟩
  obtain ⟨⟨⟨a, b⟩, d⟩, f⟩ := this.2 s x e
  have := tgP_c B n x.1
  omega
theorem br_g {B : Nat → Nat} {n : Nat} {O : pPS → pPS} (h : gU n O) (hp : ∀ s x, O s = .inr x → qSu B n x.1) : ∀ y x, ngS B n 41 (eiS B n O (stS B n (.inr y))) = .inr x → Rr n y x := by
  intro y x e
  cases hs : eiS B n O (stS B n (.inr y)) with
  | inl b => rw [hs] at e; cases e
  | inr z =>
    rw [hs] at e
    obtain ⟨y', e0, a1, a2, w, a3, a4, a5⟩ := (ei_g h hp).1 _ _ hs
    obtain ⟨e1, e2, -⟩ := stS_i e0
    simp only [ngS] at e
    cases hn : nxG B n 41 (.inr z.1) with
    | inl b => rw [hn] at e; cases e
    | inr p =>
      rw [hn] at e
      simp only [liS] at e
      cases e
      have hq := (stp_in (nx_in hn)).1
      rw [e2] at a1 a3 a4
      rw [e1] at a2 a5
      refine ⟨a1, fun hy => ?_, w, a3, a4, fun hy => a5 (tQ_le (B := B) hy).2⟩
      have t := tQ_le (B := B) hy
      have t2 := a2 t.2
      have t3 := tQ_le (B := B) t2.1
      show p ≤ n ∧ y.1 ≤ p
      omega
theorem on_g {B : Nat → Nat} {n : Nat} : ∀ r, gU n (ONr B n r) ∧ ∀ s x, ONr B n r s = .inr x → qSu B n x.1 := by
  intro r
  have st : ∀ r, gU n (unS B n (BRr B n r)) → (∀ s x, NTr B n r s = .inr x → (∃ y, s = .inr y ∧ Rr n y x) ∧ qSu B n x.1) → gU n (ONr B n r) ∧ ∀ s x, ONr B n r s = .inr x → qSu B n x.1 := by
    intro r hu hn
    have hr := re_g (B := B) hu
    rw [ONr_eq]
    refine ⟨fun s x e => ?_, fun s x e => ?_⟩
    · unfold onS at e
      split at e
      · exact (hn s x e).1
      · exact hr.1 s x e
    · unfold onS at e
      split at e
      · exact (hn s x e).2
      · exact hr.2 s x e
  induction r with
  | zero =>
    refine st 0 (un_g (fun y x e => by cases e)) (fun s x e => ?_)
    cases s <;> cases e
  | succ r ih =>
    refine st (r + 1) (un_g (fun y x e => br_g ih.1 ih.2 y x e)) (fun s x e => ?_)
    simp only [NTr] at e
    cases hu : ONr B n r (stS B n s) with
    | inl b => rw [hu] at e; cases e
    | inr z =>
      rw [hu] at e
      cases e
      obtain ⟨y', e0, a1, a2, w, a3, a4, a5⟩ := ih.1 _ _ hu
      refine ⟨?_, ih.2 _ z hu⟩
      cases s with
      | inl b => cases e0
      | inr y =>
        obtain ⟨e1, e2, -⟩ := stS_i e0
        rw [e2] at a1 a3 a4
        rw [e1] at a2 a5
        refine ⟨y, rfl, a1, fun hy => ?_, w ++ [(7, 0)], ?_, a4.nt, fun hy => (a5 (tQ_le (B := B) hy).2).app (okO.one ⟨by omega, by omega⟩)⟩
        · have t := tQ_le (B := B) hy
          have t2 := a2 t.2
          show z.1 ≤ n ∧ y.1 ≤ z.1
          omega
        · show z.2.1 ++ [(7, 0)] = _
          rw [a3, List.append_assoc]
