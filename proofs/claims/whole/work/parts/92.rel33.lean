/-! the model's way: signs that wait lie on a stack, 20 a bracket, 21 a not; true: a unit is to come, false: a sign -/
abbrev pCf : Type := Bool × List Nat × pPS
def clL (t : Nat) : List Nat → List Nat
  | [] => []
  | c :: st => if c ≠ 20 ∧ t ≤ tgt c then clL t st else c :: st
def stO (c : Nat) : Nat × Nat := if c = 21 then (7, 0) else (c, 0)
def clP (t : Nat) : List Nat → pP
  | [] => []
  | c :: st => if c ≠ 20 ∧ t ≤ tgt c then stO c :: clP t st else []
def hRl : List Nat → Bool
  | [] => false
  | c :: st => if c = 20 then false else if 4 < tgt c then hRl st else tgt c == 4
def mNt : List Nat → Bool
  | [] => true
  | c :: _ => c == 20 || decide (tgt c < 4)
def hBr : List Nat → Bool
  | [] => false
  | c :: st => c == 20 || hBr st
def dpL : List Nat → Nat
  | [] => 0
  | c :: st => (if c = 20 ∨ c = 21 then 1 else 0) + dpL st
def soS (B : Nat → Nat) (n : Nat) (st : List Nat) (x : Nat × pP × Nat) : pPS := if hBr st = true then .inl (2, tQ B n x.1) else .inr (x.1, x.2.1 ++ clP 0 st, x.2.2)
def stM (B : Nat → Nat) (n : Nat) : pCf → pCf ⊕ pPS
  | (_, _, .inl e) => .inr (.inl e)
  | (true, st, .inr x) => if tkWb B n x.1 11 = true ∧ mNt st = true then (if 6 < dpL st then .inr (.inl (2, tQ B n x.1)) else .inl (true, 21 :: st, stS B n (.inr x)))
      else if tkGb B n x.1 40 = true then (if 30 ≤ x.2.2 ∨ 6 < dpL st then .inr (.inl (2, tQ B n x.1)) else .inl (true, 20 :: st, stS B n (.inr (x.1, x.2.1, x.2.2 + 1))))
      else match lfN B n x.1 with
        | none => .inr (.inl (2, tQ B n x.1))
        | some q => if 30 ≤ x.2.2 then .inr (.inl (2, tQ B n x.1)) else .inl (false, st, stS B n (.inr (x.1, x.2.1 ++ [q], x.2.2 + 1)))
  | (false, st, .inr x) => if tkGb B n x.1 41 = true ∧ hBr st = true then .inl (false, (clL 0 st).tail, stS B n (.inr (x.1, x.2.1 ++ clP 0 st, x.2.2)))
      else if mSg B n x.1 ≠ 0 ∧ ¬ (tgP B n x.1 = 4 ∧ hRl st = true) then .inl (true, mSg B n x.1 :: clL (tgt (mSg B n x.1)) st, stS B n (.inr (x.1, x.2.1 ++ clP (tgt (mSg B n x.1)) st, x.2.2)))
      else .inr (soS B n st x)
def ruM (B : Nat → Nat) (n : Nat) : Nat → pCf → Option pPS
  | 0, _ => none
  | f + 1, c => match stM B n c with
    | .inl c' => ruM B n f c'
    | .inr r => some r
def TM (B : Nat → Nat) (n : Nat) (res : pPS) (c : pCf) : Prop := ∃ f, ruM B n f c = some res
section TM
variable {B : Nat → Nat} {n : Nat} {res : pPS}
theorem TM_s {c c' : pCf} (h : stM B n c = .inl c') (k : TM B n res c') : TM B n res c := by
  obtain ⟨f, hf⟩ := k
  exact ⟨f + 1, by simp only [ruM, h]; exact hf⟩
theorem TM_e {c : pCf} {r : pPS} (h : stM B n c = .inr r) (k : r = res) : TM B n res c := ⟨1, by simp only [ruM, h, k]⟩
theorem TM_r {c : pCf} {r : pPS} (h : stM B n c = .inr r) (k : TM B n res c) : r = res := by
  obtain ⟨f, hf⟩ := k
  cases f with
  | zero => cases hf
  | succ f => simp only [ruM, h] at hf; cases hf; rfl
theorem TM_i {b : Bool} {st : List Nat} {e : Nat × Nat} : TM B n res (b, st, .inl e) ↔ res = .inl e :=
  ⟨fun h => (TM_r (r := .inl e) (by cases b <;> rfl) h).symm, fun h => TM_e (r := .inl e) (by cases b <;> rfl) h.symm⟩
theorem TM_cg {c c' : pCf} (h : stM B n c = stM B n c') (k : TM B n res c) : TM B n res c' := by
  obtain ⟨f, hf⟩ := k
  cases f with
  | zero => cases hf
  | succ f => exact ⟨f + 1, by simp only [ruM, ← h] at hf ⊢; exact hf⟩
/-- behind a relation another relation stands nowhere -/
def TL (B : Nat → Nat) (n : Nat) (res : pPS) (b : Bool) (st : List Nat) : pPS → Prop
  | .inl e => res = .inl e
  | .inr x => if b = true ∧ tgP B n x.1 = 4 then soS B n st x = res else TM B n res (false, st, .inr x)
theorem TL_f {st : List Nat} {s : pPS} : TL B n res false st s ↔ TM B n res (false, st, s) := by
  cases s with
  | inl e => exact TM_i.symm
  | inr x => simp only [TL]; rw [if_neg (by simp)]
theorem TL_n {b : Bool} {st : List Nat} {x : Nat × pP × Nat} (h : tgP B n x.1 ≠ 4) : TL B n res b st (.inr x) ↔ TM B n res (false, st, .inr x) := by
  simp only [TL]; rw [if_neg (fun q => h q.2)]
theorem so_cons {c : Nat} {st : List Nat} {x : Nat × pP × Nat} (hc : c ≠ 20) : soS B n (c :: st) x = soS B n st (x.1, x.2.1 ++ [stO c], x.2.2) := by
  unfold soS
  rw [show hBr (c :: st) = hBr st by simp [hBr, hc]]
  split
  · rfl
  · rw [clP, if_pos ⟨hc, Nat.zero_le _⟩, List.append_assoc]; rfl
theorem fl_eq {c : Nat} {st : List Nat} {x : Nat × pP × Nat} (hc : c ≠ 20) (h1 : tgP B n x.1 ≤ tgt c) (h2 : tgP B n x.1 ≠ 4 ∨ 4 < tgt c) : stM B n (false, st, .inr (x.1, x.2.1 ++ [stO c], x.2.2)) = stM B n (false, c :: st, .inr x) := by
  simp only [stM]
  rw [show hBr (c :: st) = hBr st by simp [hBr, hc]]
  by_cases a : tkGb B n x.1 41 = true ∧ hBr st = true
  · rw [if_pos a, if_pos a, clL, if_pos ⟨hc, Nat.zero_le _⟩, clP, if_pos ⟨hc, Nat.zero_le _⟩, List.append_assoc]; rfl
  · rw [if_neg a, if_neg a]
    have e : (tgP B n x.1 = 4 ∧ hRl (c :: st) = true) ↔ (tgP B n x.1 = 4 ∧ hRl st = true) := by
      rcases h2 with h2 | h2
      · exact ⟨fun q => absurd q.1 h2, fun q => absurd q.1 h2⟩
      · rw [show hRl (c :: st) = hRl st by simp [hRl, hc, h2]]
    by_cases d : mSg B n x.1 ≠ 0 ∧ ¬ (tgP B n x.1 = 4 ∧ hRl st = true)
    · rw [if_pos d, if_pos ⟨d.1, fun q => d.2 (e.mp q)⟩]
      rw [tgP_t d.1] at h1
      rw [clL, if_pos ⟨hc, h1⟩, clP, if_pos ⟨hc, h1⟩, List.append_assoc]; rfl
    · rw [if_neg d, if_neg (fun q => d ⟨q.1, fun z => q.2 (e.mpr z)⟩), so_cons hc]
theorem TL_fl {b : Bool} {c : Nat} {st : List Nat} {s : pPS} (hc : c ≠ 20) (h : ∀ x, s = .inr x → tgP B n x.1 ≤ tgt c ∨ (b = true ∧ tgP B n x.1 = 4)) (hb : b = true ∨ 4 < tgt c) (k : TL B n res b st (adS (stO c) s)) : TL B n res b (c :: st) s := by
  cases s with
  | inl e => exact k
  | inr x =>
    simp only [TL, adS] at k ⊢
    by_cases a : b = true ∧ tgP B n x.1 = 4
    · rw [if_pos a] at k ⊢
      rw [so_cons hc]; exact k
    · rw [if_neg a] at k ⊢
      refine TM_cg (fl_eq hc ?_ ?_) k
      · rcases h x rfl with q | q
        · exact q
        · exact absurd q a
      · rcases hb with q | q
        · exact Or.inl (fun z => a ⟨q, z⟩)
        · exact Or.inr q
/-- the top binds less -/
def loT (st : List Nat) (t : Nat) : Prop := ∀ c st', st = c :: st' → c = 20 ∨ tgt c < t
theorem loT.nil (t : Nat) : loT [] t := fun c st' h => by cases h
theorem loT.br (st : List Nat) (t : Nat) : loT (20 :: st) t := fun c st' h => by cases h; exact Or.inl rfl
theorem loT.on {c : Nat} {st : List Nat} {t : Nat} (h : tgt c < t) : loT (c :: st) t := fun c' st' e => by cases e; exact Or.inr h
theorem loT.up {st : List Nat} {t t' : Nat} (h : loT st t) (ht : t ≤ t') : loT st t' := fun c st' e => (h c st' e).imp id (fun q => by omega)
theorem loT.cl {st : List Nat} {t : Nat} (h : loT st t) : clL t st = st ∧ clP t st = [] := by
  cases st with
  | nil => exact ⟨rfl, rfl⟩
  | cons c st' =>
    have := h c st' rfl
    rw [clL, clP, if_neg (by omega), if_neg (by omega)]
    exact ⟨rfl, rfl⟩
theorem loT.rl {st : List Nat} (h : loT st 4) : hRl st = false ∧ mNt st = true := by
  cases st with
  | nil => exact ⟨rfl, rfl⟩
  | cons c st' =>
    have := h c st' rfl
    rw [hRl, mNt]
    rcases this with q | q
    · rw [if_pos q]; simp [q]
    · by_cases c0 : c = 20
      · rw [if_pos c0]; simp [c0]
      · rw [if_neg c0, if_neg (by omega)]
        refine ⟨?_, by simp [q]⟩
        rw [beq_eq_false_iff_ne]
        omega
theorem stO_n {c : Nat} (h : c ≠ 21) : stO c = (c, 0) := by unfold stO; rw [if_neg h]
theorem dp_n {c : Nat} {st : List Nat} (h : c ≠ 20) (h2 : c ≠ 21) : dpL (c :: st) = dpL st := by rw [dpL, if_neg (by omega), Nat.zero_add]
theorem dp_y {c : Nat} {st : List Nat} (h : c = 20 ∨ c = 21) : dpL (c :: st) = dpL st + 1 := by rw [dpL, if_pos h, Nat.add_comm]
/-- a sign that is taken -/
theorem sgn_st {st : List Nat} {x : Nat × pP × Nat} (h0 : mSg B n x.1 ≠ 0) (hr : tgP B n x.1 = 4 → hRl st = false) (hl : loT st (tgP B n x.1)) : stM B n (false, st, .inr x) = .inl (true, mSg B n x.1 :: st, stS B n (.inr x)) := by
  simp only [stM]
  rw [if_neg (fun q => (mSg_n h0).2.2.1 q.1), if_pos ⟨h0, fun q => by rw [hr q.1] at q; exact absurd q.2 (by simp)⟩]
  rw [tgP_t h0] at hl
  rw [hl.cl.1, hl.cl.2, List.append_nil]
theorem lpG {b : Bool} {t : Nat} {U : pPS → pPS} {st : List Nat} (hl : loT st t) (ht : t ≠ 4 ∧ 1 ≤ t) (hb : b = true ∨ 4 < t) (hU : ∀ c s, tgt c = t → c ≠ 20 → c ≠ 21 → TL B n res b (c :: st) (U s) → TM B n res (true, c :: st, s)) (hp : ∀ s x, U s = .inr x → tgP B n x.1 ≤ t ∨ (b = true ∧ tgP B n x.1 = 4)) : ∀ (m : Nat) (s : pPS), TL B n res b st (lpS B n t U m s) → TL B n res b st s := by
  intro m
  induction m with
  | zero => intro s h; exact h
  | succ m ih =>
    intro s h
    simp only [lpS] at h
    cases hc : cTS B n t s with
    | none => rw [hc] at h; exact h
    | some c =>
      rw [hc] at h
      obtain ⟨x, e0, h0, h1⟩ := cTS_s hc
      subst e0
      have hm : mSg B n x.1 ≠ 0 := fun q => by have := tgP_0.mpr q; omega
      have hn := mSg_n hm
      have htc : tgt c = t := by rw [← h1, ← tgP_t hm]; exact h0
      have c20 : c ≠ 20 := by rw [← h1]; exact hn.1
      have c21 : c ≠ 21 := by rw [← h1]; exact hn.2.1
      have k := ih _ h
      rw [← stO_n c21] at k
      have k2 := TL_fl c20 (fun y hy => by rw [htc]; exact hp _ y hy) (by rw [htc]; exact hb) k
      have k3 := hU c _ htc c20 c21 k2
      rw [TL_n (by rw [h0]; exact ht.1)]
      refine TM_s (sgn_st hm (fun q => absurd (h0.symm.trans q) ht.1) (by rw [h0]; exact hl)) ?_
      rw [h1]; exact k3
def noN (B : Nat → Nat) (n : Nat) (st : List Nat) (s : pPS) : Prop := mNt st = true → isNt B n s = false
theorem noN.op {c : Nat} {st : List Nat} {s : pPS} (h : 4 ≤ tgt c) (h0 : c ≠ 20) : noN B n (c :: st) s := fun q => by
  rw [mNt] at q
  simp [h0] at q
  omega
def SU (B : Nat → Nat) (n : Nat) (res : pPS) (U : pPS → pPS) (d : Nat) : Prop := ∀ (st : List Nat) (s : pPS), dpL st = d → noN B n st s → TL B n res false st (U s) → TM B n res (true, st, s)
theorem te_s {U : pPS → pPS} {d : Nat} (hU : SU B n res U d) : ∀ (st : List Nat) (s : pPS), loT st 6 → dpL st = d → noN B n st s → TL B n res false st (teS B n U s) → TM B n res (true, st, s) := by
  intro st s hl hd hn h
  refine hU st s hd hn (lpG hl (by omega) (Or.inr (by omega)) (fun c s hc c0 c1 k => ?_) (fun s x _ => Or.inl (tgP_c B n x.1).1) 30 _ h)
  exact hU _ s (by rw [dp_n c0 c1]; exact hd) (noN.op (by omega) c0) k
theorem su_s {U : pPS → pPS} {d : Nat} (hU : SU B n res U d) (hg : gU n U) : ∀ (st : List Nat) (s : pPS), loT st 5 → dpL st = d → noN B n st s → TL B n res false st (suS B n U s) → TM B n res (true, st, s) := by
  intro st s hl hd hn h
  refine te_s hU st s (hl.up (by omega)) hd hn (lpG hl (by omega) (Or.inr (by omega)) (fun c s hc c0 c1 k => ?_) (fun s x e => Or.inl ?_) 30 _ h)
  · exact te_s hU _ s (loT.on (by omega)) (by rw [dp_n c0 c1]; exact hd) (noN.op (by omega) c0) k
  · have a := (te_g (B := B) hg).2 s x e
    have c := tgP_c B n x.1
    unfold qTe at a
    omega
theorem re_s {U : pPS → pPS} {d : Nat} (hU : SU B n res U d) (hg : gU n U) : ∀ (st : List Nat) (s : pPS), loT st 4 → dpL st = d → noN B n st s → TL B n res true st (reS B n U s) → TM B n res (true, st, s) := by
  intro st s hl hd hn h
  refine su_s hU hg st s (hl.up (by omega)) hd hn ?_
  unfold reS re2 at h
  cases hs : suS B n U s with
  | inl e => rw [hs] at h; exact h
  | inr x =>
    rw [hs] at h
    cases hc : cTS B n 4 (.inr x) with
    | none =>
      rw [hc] at h
      rw [TL_f]
      exact (TL_n (cTS_n hc)).mp h
    | some c =>
      rw [hc] at h
      obtain ⟨y, e0, h0, h1⟩ := cTS_s hc
      cases e0
      have hm : mSg B n x.1 ≠ 0 := fun q => by have := tgP_0.mpr q; omega
      have hn := mSg_n hm
      have htc : tgt c = 4 := by rw [← h1, ← tgP_t hm]; exact h0
      have c20 : c ≠ 20 := by rw [← h1]; exact hn.1
      have c21 : c ≠ 21 := by rw [← h1]; exact hn.2.1
      rw [TL_f]
      refine TM_s (sgn_st hm (fun _ => hl.rl.1) (by rw [h0]; exact hl)) ?_
      rw [h1]
      refine su_s hU hg _ _ (loT.on (by omega)) (by rw [dp_n c20 c21]; exact hd) (noN.op (by omega) c20) ?_
      rw [TL_f]
      simp only at h
      rw [← stO_n c21] at h
      cases hz : suS B n U (stS B n (.inr x)) with
      | inl e => rw [hz] at h; exact TM_i.mpr h
      | inr z =>
        rw [hz] at h
        have q := (su_g (B := B) hg).2 _ z hz
        have q2 := tgP_c B n z.1
        unfold qSu at q
        have k := TL_fl (b := true) c20 (fun y hy => by cases hy; rw [htc]; exact Or.inl (by omega)) (Or.inl rfl) h
        by_cases z4 : tgP B n z.1 = 4
        · simp only [TL] at k
          rw [if_pos ⟨trivial, z4⟩] at k
          have hz0 : mSg B n z.1 ≠ 0 := fun q => by have := tgP_0.mpr q; omega
          refine TM_e ?_ k
          simp only [stM]
          have hh : hRl (c :: st) = true := by
            rw [hRl, if_neg c20, if_neg (by omega)]
            simp [htc]
          rw [if_neg (fun q => (mSg_n hz0).2.2.1 q.1), if_neg (fun q => q.2 ⟨z4, hh⟩)]
        · exact (TL_n z4).mp k
theorem un_s {r d : Nat} (hd : d + r = 7) (hE : r ≠ 0 → ∀ (st : List Nat) (s : pPS), dpL st = d → TL B n res true (20 :: st) (eiS B n (ONr B n (r - 1)) s) → TM B n res (true, 20 :: st, s)) : SU B n res (unS B n (BRr B n r)) d := by
  intro st s h1 h2 h
  rw [TL_f] at h
  cases s with
  | inl e => exact TM_i.mpr (TM_i.mp h)
  | inr x =>
    have hnt : ¬ (tkWb B n x.1 11 = true ∧ mNt st = true) := fun q => by
      have := h2 q.2
      simp only [isNt] at this
      rw [q.1] at this
      cases this
    simp only [unS] at h
    by_cases h30 : 30 ≤ x.2.2
    · rw [if_pos h30] at h
      have e := TM_i.mp h
      refine TM_e (r := .inl (2, tQ B n x.1)) ?_ e.symm
      simp only [stM]
      rw [if_neg hnt]
      by_cases a : tkGb B n x.1 40 = true
      · rw [if_pos a, if_pos (Or.inl h30)]
      · rw [if_neg a]
        split
        · rfl
        · rw [if_pos h30]
    · rw [if_neg h30] at h
      by_cases a : tkGb B n x.1 40 = true
      · rw [if_pos a] at h
        cases r with
        | zero =>
          have e := TM_i.mp (show TM B n res (false, st, .inl (2, tQ B n x.1)) from h)
          refine TM_e (r := .inl (2, tQ B n x.1)) ?_ e.symm
          simp only [stM]
          rw [if_neg hnt, if_pos a, if_pos (Or.inr (by omega))]
        | succ r =>
          refine TM_s (c' := (true, 20 :: st, stS B n (.inr (x.1, x.2.1, x.2.2 + 1)))) ?_ ?_
          · simp only [stM]
            rw [if_neg hnt, if_pos a, if_neg (by omega)]
          · refine hE (by omega) st _ h1 ?_
            simp only [BRr] at h
            rw [show r + 1 - 1 = r by omega]
            cases hz : eiS B n (ONr B n r) (stS B n (.inr (x.1, x.2.1, x.2.2 + 1))) with
            | inl e => rw [hz] at h; exact TM_i.mp h
            | inr z =>
              rw [hz] at h
              have q := (ei_g (on_g r).1 (on_g r).2).2 _ z hz
              simp only [ngS, nxG] at h
              by_cases z4 : tgP B n z.1 = 4
              · have hz0 : mSg B n z.1 ≠ 0 := fun q => by have := tgP_0.mpr q; omega
                simp only [TL]
                rw [if_pos ⟨trivial, z4⟩]
                rw [if_neg (mSg_n hz0).2.2.1] at h
                have e := TM_i.mp h
                rw [e]
                unfold soS
                rw [if_pos (by simp [hBr])]
              · rw [TL_n z4]
                have z0 : mSg B n z.1 = 0 := tgP_0.mp (by omega)
                by_cases b : tkGb B n z.1 41 = true
                · rw [if_pos b] at h
                  refine TM_s (c' := (false, st, stS B n (.inr z))) ?_ h
                  simp only [stM]
                  rw [if_pos ⟨b, by simp [hBr]⟩, clL, clP, if_neg (by omega), if_neg (by omega), List.append_nil]
                  rfl
                · rw [if_neg b] at h
                  have e := TM_i.mp h
                  refine TM_e (r := soS B n (20 :: st) z) ?_ ?_
                  · simp only [stM]
                    rw [if_neg (fun q => b q.1), if_neg (fun q => q.1 z0)]
                  · rw [e]
                    unfold soS
                    rw [if_pos (by simp [hBr])]
      · rw [if_neg a] at h
        cases hq : lfN B n x.1 with
        | none =>
          rw [hq] at h
          have e := TM_i.mp h
          refine TM_e (r := .inl (2, tQ B n x.1)) ?_ e.symm
          simp only [stM]
          rw [if_neg hnt, if_neg a, hq]
        | some q =>
          rw [hq] at h
          refine TM_s (c' := (false, st, stS B n (.inr (x.1, x.2.1 ++ [q], x.2.2 + 1)))) ?_ h
          simp only [stM]
          rw [if_neg hnt, if_neg a, hq]
          simp only
          rw [if_neg h30]
theorem bo_s {O : pPS → pPS} {d : Nat} (hO : ∀ (st : List Nat) (s : pPS), loT st 4 → dpL st = d → TL B n res true st (O s) → TM B n res (true, st, s)) (hq : ∀ s x, O s = .inr x → qSu B n x.1) : ∀ (st : List Nat) (s : pPS), loT st 2 → dpL st = d → TL B n res true st (boS B n O s) → TM B n res (true, st, s) := by
  intro st s hl hd h
  refine hO st s (hl.up (by omega)) hd (lpG hl (by omega) (Or.inl rfl) (fun c s hc c0 c1 k => ?_) (fun s x e => ?_) 30 _ h)
  · exact hO _ s (loT.on (by omega)) (by rw [dp_n c0 c1]; exact hd) k
  · have a := hq s x e
    have c := tgP_c B n x.1
    unfold qSu at a
    by_cases z : tgP B n x.1 = 4
    · exact Or.inr ⟨rfl, z⟩
    · exact Or.inl (by omega)
theorem ei_s {O : pPS → pPS} {d : Nat} (hg : gU n O) (hO : ∀ (st : List Nat) (s : pPS), loT st 4 → dpL st = d → TL B n res true st (O s) → TM B n res (true, st, s)) (hq : ∀ s x, O s = .inr x → qSu B n x.1) : ∀ (st : List Nat) (s : pPS), loT st 1 → dpL st = d → TL B n res true st (eiS B n O s) → TM B n res (true, st, s) := by
  intro st s hl hd h
  refine bo_s hO hq st s (hl.up (by omega)) hd (lpG hl (by omega) (Or.inl rfl) (fun c s hc c0 c1 k => ?_) (fun s x e => ?_) 30 _ h)
  · exact bo_s hO hq _ s (loT.on (by omega)) (by rw [dp_n c0 c1]; exact hd) k
  · have a := (bo_g hg hq).2 s x e
    have c := tgP_c B n x.1
    unfold qSu at a
    by_cases z : tgP B n x.1 = 4
    · exact Or.inr ⟨rfl, z⟩
    · exact Or.inl (by omega)
theorem on_s : ∀ (r d : Nat), d + r = 7 → ∀ (st : List Nat) (s : pPS), loT st 4 → dpL st = d → TL B n res true st (ONr B n r s) → TM B n res (true, st, s) := by
  intro r
  induction r with
  | zero =>
    intro d hd st s hl h1 h
    rw [ONr_eq] at h
    have hu : SU B n res (unS B n (BRr B n 0)) d := un_s hd (fun q => absurd rfl q)
    have hg : gU n (unS B n (BRr B n 0)) := un_g (B := B) (fun y x e => by cases e)
    unfold onS at h
    by_cases a : isNt B n s = true
    · rw [if_pos a] at h
      cases s with
      | inl e => cases a
      | inr x =>
        have e : res = .inl (2, tQ B n x.1) := h
        refine TM_e (r := .inl (2, tQ B n x.1)) ?_ e.symm
        simp only [stM]
        rw [if_pos ⟨a, hl.rl.2⟩, if_pos (by omega)]
    · rw [if_neg a] at h
      exact re_s hu hg st s hl h1 (fun _ => by simpa using a) h
  | succ r ih =>
    intro d hd st s hl h1 h
    rw [ONr_eq] at h
    have hu : SU B n res (unS B n (BRr B n (r + 1))) d := un_s hd (fun _ st s q k => ei_s (on_g r).1 (ih (d + 1) (by omega)) (on_g r).2 _ s (loT.br st 1) (by rw [dp_y (Or.inl rfl)]; omega) k)
    have hg : gU n (unS B n (BRr B n (r + 1))) := un_g (B := B) (fun y x e => br_g (on_g r).1 (on_g r).2 y x e)
    unfold onS at h
    by_cases a : isNt B n s = true
    · rw [if_pos a] at h
      cases s with
      | inl e => cases a
      | inr x =>
        refine TM_s (c' := (true, 21 :: st, stS B n (.inr x))) ?_ ?_
        · simp only [stM]
          rw [if_pos ⟨a, hl.rl.2⟩, if_neg (by omega)]
        · refine ih (d + 1) (by omega) _ _ (loT.on (by decide)) (by rw [dp_y (Or.inr rfl)]; omega) ?_
          refine TL_fl (c := 21) (by decide) (fun y hy => ?_) (Or.inl rfl) h
          have b := (on_g r).2 _ y hy
          have c := tgP_c B n y.1
          unfold qSu at b
          rw [show tgt 21 = 3 from rfl]
          by_cases z : tgP B n y.1 = 4
          · exact Or.inr ⟨rfl, z⟩
          · exact Or.inl (by omega)
    · rw [if_neg a] at h
      exact re_s hu hg st s hl h1 (fun _ => by simpa using a) h
/-- a formula as a whole -/
def foS (B : Nat → Nat) (n : Nat) (s : pPS) : pPS := eiS B n (ONr B n 7) s
theorem fo_s (s : pPS) : TM B n (foS B n s) (true, [], s) := by
  refine ei_s (on_g 7).1 (on_s 7 0 (by omega)) (on_g 7).2 [] s (loT.nil 1) rfl ?_
  show TL B n (foS B n s) true [] (foS B n s)
  cases h : foS B n s with
  | inl e => rfl
  | inr x =>
    have q := (ei_g (on_g 7).1 (on_g 7).2).2 s x h
    have e : soS B n [] x = .inr x := by
      unfold soS
      rw [if_neg (by simp [hBr]), clP, List.append_nil]
    simp only [TL]
    by_cases z : tgP B n x.1 = 4
    · rw [if_pos ⟨trivial, z⟩]; exact e
    · rw [if_neg (fun q => z q.2)]
      refine TM_e ?_ e
      simp only [stM]
      rw [if_neg (by simp [hBr]), if_neg (fun y => y.1 (tgP_0.mp (by omega)))]
end TM
/-! what the stack and the steps come to -/
def iN (b : Bool) (st : List Nat) (o : pP) (u : Nat) : Prop := dpL st ≤ 7 ∧ u ≤ 30 ∧ st.length ≤ u + dpL st + (if b = true then 1 else 0) ∧ o.length + st.length + (if b = true then 0 else 1) ≤ 9 * u + (if b = true then dpL st else 0)
def iM : pCf → Prop
  | (_, _, .inl _) => True
  | (b, st, .inr x) => iN b st x.2.1 x.2.2
theorem cl_len (t : Nat) : ∀ st : List Nat, (clL t st).length + (clP t st).length = st.length ∧ (clL t st).length + dpL st ≤ st.length + dpL (clL t st) ∧ dpL (clL t st) ≤ dpL st
  | [] => ⟨rfl, Nat.le_refl _, Nat.le_refl _⟩
  | c :: st => by
    obtain ⟨a, b, d⟩ := cl_len t st
    rw [clL, clP]
    by_cases h : c ≠ 20 ∧ t ≤ tgt c
    · rw [if_pos h, if_pos h]
      simp only [List.length_cons, dpL]
      refine ⟨by omega, ?_, by omega⟩
      split <;> omega
    · rw [if_neg h, if_neg h]
      exact ⟨by simp, Nat.le_refl _, Nat.le_refl _⟩
theorem clL_b : ∀ st : List Nat, hBr st = true → ∃ st', clL 0 st = 20 :: st'
  | [], h => by cases h
  | c :: st, h => by
    rw [clL]
    by_cases e : c = 20
    · rw [if_neg (by omega), e]; exact ⟨st, rfl⟩
    · rw [if_pos ⟨e, Nat.zero_le _⟩]
      exact clL_b st (by simpa [hBr, e] using h)
theorem iN_nt {st : List Nat} {o : pP} {u : Nat} (h : iN true st o u) (hd : dpL st ≤ 6) : iN true (21 :: st) o u := by
  simp only [iN, if_true, List.length_cons, dp_y (Or.inr rfl)] at h ⊢
  omega
theorem iN_br {st : List Nat} {o : pP} {u : Nat} (h : iN true st o u) (hd : dpL st ≤ 6) (hu : u < 30) : iN true (20 :: st) o (u + 1) := by
  simp only [iN, if_true, List.length_cons, dp_y (Or.inl rfl)] at h ⊢
  omega
theorem iN_lf {st : List Nat} {o : pP} {u : Nat} {q : Nat × Nat} (h : iN true st o u) (hu : u < 30) : iN false st (o ++ [q]) (u + 1) := by
  simp only [iN, if_true, List.length_append, List.length_singleton, Bool.false_eq_true, if_false] at h ⊢
  omega
theorem iN_cb {st : List Nat} {o : pP} {u : Nat} (h : iN false st o u) (hb : hBr st = true) : iN false (clL 0 st).tail (o ++ clP 0 st) u := by
  obtain ⟨st', e⟩ := clL_b st hb
  have k := cl_len 0 st
  rw [e] at k ⊢
  simp only [List.length_cons, dp_y (Or.inl rfl)] at k
  simp only [iN, List.tail_cons, List.length_append, Bool.false_eq_true, if_false] at h ⊢
  omega
theorem iN_sg {st : List Nat} {o : pP} {u c t : Nat} (h : iN false st o u) (hc : c ≠ 20) (hc1 : c ≠ 21) : iN true (c :: clL t st) (o ++ clP t st) u := by
  have k := cl_len t st
  simp only [iN, if_true, List.length_cons, List.length_append, dp_n hc hc1, Bool.false_eq_true, if_false] at h ⊢
  omega
theorem iM_liS {b : Bool} {st : List Nat} {p : Nat} {o : pP} {u : Nat} {B : Nat → Nat} {n : Nat} (h : iN b st o u) : iM (b, st, stS B n (.inr (p, o, u))) := by
  simp only [stS]
  cases stp B n p with
  | inl e => trivial
  | inr q => exact h
theorem iM_s {B : Nat → Nat} {n : Nat} {c c' : pCf} (h : stM B n c = .inl c') (hi : iM c) : iM c' := by
  obtain ⟨b, st, s⟩ := c
  cases s with
  | inl e => cases b <;> cases h
  | inr x =>
    obtain ⟨p, o, u⟩ := x
    have hi2 : iN b st o u := hi
    cases b with
    | true =>
      simp only [stM] at h
      split at h
      · split at h
        · cases h
        · cases h
          exact iM_liS (iN_nt hi2 (by omega))
      · split at h
        · split at h
          · cases h
          · cases h
            exact iM_liS (iN_br hi2 (by omega) (by omega))
        · split at h
          · cases h
          · split at h
            · cases h
            · cases h
              exact iM_liS (iN_lf hi2 (by omega))
    | false =>
      simp only [stM] at h
      split at h
      · rename_i hb
        cases h
        exact iM_liS (iN_cb hi2 hb.2)
      · split at h
        · rename_i q
          have hn := mSg_n q.1
          cases h
          exact iM_liS (iN_sg hi2 hn.1 hn.2.1)
        · cases h
theorem iM_0 (p : Nat) : iM (true, [], .inr (p, [], 0)) := by simp [iM, iN, dpL]
theorem iM_r {B : Nat → Nat} {n : Nat} {x : Nat × pP × Nat} : ∀ (f : Nat) (c : pCf), iM c → ruM B n f c = some (.inr x) → x.2.1.length ≤ 269 := by
  intro f
  induction f with
  | zero => intro c _ h; cases h
  | succ f ih =>
    intro c hi h
    simp only [ruM] at h
    cases hc : stM B n c with
    | inl c' => rw [hc] at h; exact ih c' (iM_s hc hi) h
    | inr r =>
      rw [hc] at h
      cases h
      obtain ⟨b, st, s⟩ := c
      cases s with
      | inl e => cases b <;> cases hc
      | inr y =>
        obtain ⟨p, o, u⟩ := y
        cases b with
        | true =>
          simp only [stM] at hc
          repeat' split at hc
          all_goals cases hc
        | false =>
          simp only [stM] at hc
          simp only [iM, iN, Bool.false_eq_true, if_false] at hi
          split at hc
          · cases hc
          · split at hc
            · cases hc
            · have e := Sum.inr.inj hc
              unfold soS at e
              split at e
              · cases e
              · have e2 := Sum.inr.inj e
                rw [← e2]
                have k := cl_len 0 st
                simp only [List.length_append]
                omega
theorem fo_len {B : Nat → Nat} {n p : Nat} {x : Nat × pP × Nat} (h : foS B n (.inr (p, [], 0)) = .inr x) : x.2.1.length ≤ 269 := by
  obtain ⟨f, hf⟩ := fo_s (B := B) (n := n) (.inr (p, [], 0))
  rw [h] at hf
  exact iM_r f _ (iM_0 p) hf
/-- what a formula as a whole is -/
theorem fo_ok {B : Nat → Nat} {n p : Nat} {x : Nat × pP × Nat} (hp : p ≤ n) (h : foS B n (.inr (p, [], 0)) = .inr x) : x.1 ≤ n ∧ p ≤ x.1 ∧ x.2.2 ≤ 30 ∧ wfp x.2.1 0 ∧ x.2.1.length ≤ 269 ∧ okO x.2.1 := by
  obtain ⟨y, e, a1, a2, w, a3, a4, a5⟩ := (ei_g (on_g 7).1 (on_g 7).2).1 _ _ h
  cases e
  have e : x.2.1 = w := by rw [a3]; rfl
  have k := a4 0 [] (by omega) rfl
  rw [List.append_nil] at k
  exact ⟨(a2 hp).1, (a2 hp).2, a1.2, by rw [e]; exact k, fo_len h, by rw [e]; exact a5 hp⟩
