/-! a text's lines: what was told so far: the HOUSE's numbers, the names, counts and moves (if told), whether draw was told -/
abbrev pDt : Type := pN × List (List Nat) × Option pP × Option pP × Bool
def upN (H : pN) (k v : Nat) : pN := fun j => if j = k then v else H j
def nmS (B : Nat → Nat) (n : Nat) (L : List (List Nat)) : pRS → pRS
  | .inl e => .inl e
  | .inr p => if isNm B n p = true then (if L.contains (tL B n p) = true then .inl (3, tQ B n p) else stp B n p) else .inl (2, tQ B n p)
def nmL (B : Nat → Nat) (n : Nat) : pRS → List Nat
  | .inl _ => []
  | .inr p => tL B n p
def fdN (B : Nat → Nat) (n i hi : Nat) (s : pRS) : pRS := rdN B n 0 hi (nxW B n i s)
def fvN (B : Nat → Nat) (n i : Nat) (s : pRS) : Nat := vlN B n (nxW B n i s)
def stL (B : Nat → Nat) (n p : Nat) (D : pDt) : pRS × pDt :=
  (opN B n 2 (vlN B n (stp B n p)) (rdN B n 1 20 (stp B n p)), upN (upN D.1 0 (vlN B n (stp B n p))) 2 (opV B n 2 (rdN B n 1 20 (stp B n p))), D.2)
def tn0 (B : Nat → Nat) (n p : Nat) (D : pDt) : pRS := nmS B n D.2.1 (stp B n p)
def tn1 (B : Nat → Nat) (n p : Nat) (D : pDt) : pRS := fdN B n 5 (D.1 0) (tn0 B n p D)
def tn2 (B : Nat → Nat) (n p : Nat) (D : pDt) : pRS := fdN B n 6 40 (tn1 B n p D)
def tn3 (B : Nat → Nat) (n p : Nat) (D : pDt) : pRS := fdN B n 7 9 (tn2 B n p D)
def tn4 (B : Nat → Nat) (n p : Nat) (D : pDt) : pRS := fdN B n 8 999 (tn3 B n p D)
def tn5 (B : Nat → Nat) (n p : Nat) (D : pDt) : pRS := opN B n 9 100 (tn4 B n p D)
def tnH (B : Nat → Nat) (n p : Nat) (D : pDt) : pN :=
  upN (upN (upN (upN (upN (upN D.1 (8 + D.1 1) (fvN B n 5 (tn0 B n p D))) (16 + D.1 1) (fvN B n 6 (tn1 B n p D))) (24 + D.1 1) (fvN B n 7 (tn2 B n p D))) (32 + D.1 1) (fvN B n 8 (tn3 B n p D))) (40 + D.1 1) (opV B n 9 (tn4 B n p D))) 1 (D.1 1 + 1)
def tnL (B : Nat → Nat) (n p : Nat) (D : pDt) : pRS × pDt := (tn5 B n p D, tnH B n p D, D.2.1 ++ [nmL B n (stp B n p)], D.2.2)
def foP (B : Nat → Nat) (n p : Nat) : pPS := foS B n (liS [] 0 (stp B n p))
def psO : pPS → pP
  | .inl _ => []
  | .inr x => x.2.1
def psU : pPS → Nat
  | .inl _ => 0
  | .inr x => x.2.2
def psR : pPS → pRS
  | .inl e => .inl e
  | .inr x => .inr x.1
def ln1 (B : Nat → Nat) (n p : Nat) (b : Bool) (D : pDt) : pRS × pDt :=
  if tkWb B n p 1 = true ∧ b = true then stL B n p D
  else if tkWb B n p 3 = true ∧ D.1 1 < 8 then tnL B n p D
  else if tkWb B n p 10 = true ∧ D.2.2.1 = none then (psR (foP B n p), upN D.1 4 (D.1 4 + psU (foP B n p)), D.2.1, some (psO (foP B n p)), D.2.2.2)
  else if tkWb B n p 17 = true ∧ D.2.2.2.1 = none then (psR (foP B n p), upN D.1 4 (D.1 4 + psU (foP B n p)), D.2.1, D.2.2.1, some (psO (foP B n p)), D.2.2.2.2)
  else if tkWb B n p 18 = true ∧ D.2.2.2.2 = false then (rdN B n 0 999 (stp B n p), upN D.1 3 (vlN B n (stp B n p)), D.2.1, D.2.2.1, D.2.2.2.1, true)
  else (.inl (2, tQ B n p), D)
def lnL (B : Nat → Nat) (n p : Nat) (b : Bool) (D : pDt) : pRS × pDt := (nxG B n 59 (ln1 B n p b D).1, (ln1 B n p b D).2)
def lns (B : Nat → Nat) (n : Nat) : Nat → pRS → Bool → pDt → pRS × pDt
  | 0, s, _, D => (s, D)
  | _ + 1, .inl e, _, D => (.inl e, D)
  | m + 1, .inr p, b, D => if tK B n p = 0 then (.inr p, D) else lns B n m (lnL B n p b D).1 false (lnL B n p b D).2
def H9 : pN := fun k => if k = 0 then 9 else 0
def D0 : pDt := (H9, [], none, none, false)
/-- a text as a whole -/
def txt (B : Nat → Nat) (n : Nat) : pRS × pDt := lns B n (n + 1) (sOf B n 0) true D0
/-! places go on -/
def leR (B : Nat → Nat) (n : Nat) (s s' : pRS) : Prop := ∀ q, s' = .inr q → ∃ p, s = .inr p ∧ (p ≤ n → q ≤ n ∧ p ≤ q)
theorem leR.rf {B : Nat → Nat} {n : Nat} {s : pRS} : leR B n s s := fun q h => ⟨q, h, fun a => ⟨a, Nat.le_refl _⟩⟩
theorem leR.tr {B : Nat → Nat} {n : Nat} {s s1 s2 : pRS} (h1 : leR B n s s1) (h2 : leR B n s1 s2) : leR B n s s2 := fun q h => by
  obtain ⟨p1, e1, k1⟩ := h2 q h
  obtain ⟨p, e, k⟩ := h1 p1 e1
  refine ⟨p, e, fun hp => ?_⟩
  have a := k hp
  have b := k1 a.1
  exact ⟨b.1, by omega⟩
theorem leR.st {B : Nat → Nat} {n p : Nat} : leR B n (.inr p) (stp B n p) := fun q h => ⟨p, rfl, fun hp => by
  rw [(stp_in h).1]
  have := tQ_le (B := B) hp
  exact ⟨this.2, this.1⟩⟩
theorem leR.w {B : Nat → Nat} {n i : Nat} {s : pRS} : leR B n s (nxW B n i s) := by
  cases s with
  | inl e => exact leR.rf
  | inr p =>
    simp only [nxW]
    split
    · exact leR.st
    · exact fun q h => by cases h
theorem leR.g {B : Nat → Nat} {n i : Nat} {s : pRS} : leR B n s (nxG B n i s) := by
  cases s with
  | inl e => exact leR.rf
  | inr p =>
    simp only [nxG]
    split
    · exact leR.st
    · exact fun q h => by cases h
theorem leR.n {B : Nat → Nat} {n lo hi : Nat} {s : pRS} : leR B n s (rdN B n lo hi s) := by
  cases s with
  | inl e => exact leR.rf
  | inr p =>
    simp only [rdN]
    split
    · split
      · exact fun q h => by cases h
      · exact leR.st
    · exact fun q h => by cases h
theorem leR.o {B : Nat → Nat} {n i hi : Nat} {s : pRS} : leR B n s (opN B n i hi s) := by
  unfold opN
  split
  · exact leR.w.tr leR.n
  · exact leR.rf
theorem leR.nm {B : Nat → Nat} {n : Nat} {L : List (List Nat)} {s : pRS} : leR B n s (nmS B n L s) := by
  cases s with
  | inl e => exact leR.rf
  | inr p =>
    simp only [nmS]
    split
    · split
      · exact fun q h => by cases h
      · exact leR.st
    · exact fun q h => by cases h
theorem leR.fd {B : Nat → Nat} {n i hi : Nat} {s : pRS} : leR B n s (fdN B n i hi s) := leR.w.tr leR.n
theorem foP_r {B : Nat → Nat} {n p : Nat} {x : Nat × pP × Nat} (h : foP B n p = .inr x) : ∃ q, stp B n p = .inr q ∧ foS B n (.inr (q, [], 0)) = .inr x := by
  unfold foP at h
  cases e : stp B n p with
  | inl a =>
    rw [e] at h
    obtain ⟨y, e2, -⟩ := (ei_g (on_g 7).1 (on_g 7).2).1 _ _ h
    cases e2
  | inr q => rw [e] at h; exact ⟨q, rfl, h⟩
theorem leR.fo {B : Nat → Nat} {n p : Nat} : leR B n (.inr p) (psR (foP B n p)) := fun q h => by
  cases e : foP B n p with
  | inl a => rw [e] at h; cases h
  | inr x =>
    rw [e] at h
    cases h
    obtain ⟨q, e1, e2⟩ := foP_r e
    obtain ⟨p0, e3, k⟩ := leR.st (B := B) (n := n) (p := p) q e1
    cases e3
    refine ⟨p, rfl, fun hp => ?_⟩
    have a := k hp
    have b := fo_ok a.1 e2
    exact ⟨b.1, by show p ≤ x.1; omega⟩
theorem leR.ln {B : Nat → Nat} {n p : Nat} {b : Bool} {D : pDt} : leR B n (.inr p) (ln1 B n p b D).1 := by
  unfold ln1
  split
  · exact leR.st.tr (leR.n.tr leR.o)
  · split
    · exact leR.st.tr (leR.nm.tr (leR.fd.tr (leR.fd.tr (leR.fd.tr (leR.fd.tr leR.o)))))
    · split
      · exact leR.fo
      · split
        · exact leR.fo
        · split
          · exact leR.st.tr leR.n
          · exact fun q h => by cases h
/-- a line moves on -/
theorem lnL_lt {B : Nat → Nat} {n p q : Nat} {b : Bool} {D : pDt} (hp : p ≤ n) (h : (lnL B n p b D).1 = .inr q) : q ≤ n ∧ p < q := by
  unfold lnL at h
  simp only at h
  cases e : (ln1 B n p b D).1 with
  | inl a => rw [e] at h; cases h
  | inr r =>
    rw [e] at h
    obtain ⟨p0, e0, k⟩ := leR.ln (B := B) (n := n) (p := p) (b := b) (D := D) r e
    cases e0
    have a := k hp
    simp only [nxG] at h
    split at h
    · rename_i g
      have g4 := (tkGb_k g).1
      have e1 := (stp_in h).1
      have l1 := tE_lt (B := B) a.1 (by omega)
      have l2 := (tQ_b (B := B) a.1).1
      have l3 := (tE_b (B := B) a.1).2
      omega
    · cases h
theorem tK_end {B : Nat → Nat} {n : Nat} : tK B n n = 0 := by
  rw [tK_0]
  have h := tQ_b (B := B) (Nat.le_refl n)
  unfold tS
  rw [show tQ B n n = n by omega]
  exact sort_e (Nat.le_refl n)
/-! what was told is so as it can be -/
def rDt (D : pDt) : Prop := (1 ≤ D.1 0 ∧ D.1 0 ≤ 20) ∧ D.1 1 ≤ 8 ∧ D.1 2 ≤ D.1 0 ∧ D.1 3 ≤ 999 ∧ D.1 4 ≤ 30 * ((if D.2.2.1 = none then 0 else 1) + (if D.2.2.2.1 = none then 0 else 1)) ∧ (∀ j, j < 8 → D.1 (8 + j) ≤ D.1 0 ∧ D.1 (16 + j) ≤ 40 ∧ D.1 (24 + j) ≤ 9 ∧ D.1 (32 + j) ≤ 999 ∧ D.1 (40 + j) ≤ 100) ∧ D.2.1.length = D.1 1 ∧ (∀ L, L ∈ D.2.1 → okW L) ∧ (∀ w, D.2.2.1 = some w → wfp w 0 ∧ w.length ≤ 269 ∧ okO w) ∧ (∀ w, D.2.2.2.1 = some w → wfp w 0 ∧ w.length ≤ 269 ∧ okO w)
/-- ahead of the first line -/
def z0 (D : pDt) : Prop := D.1 1 = 0 ∧ D.1 2 = 0 ∧ ∀ j, j < 8 → D.1 (8 + j) = 0
theorem rdN_v {B : Nat → Nat} {n lo hi : Nat} {s : pRS} {q : Nat} (h : rdN B n lo hi s = .inr q) : lo ≤ vlN B n s ∧ vlN B n s ≤ hi := by
  cases s with
  | inl e => cases h
  | inr p =>
    simp only [rdN] at h
    split at h
    · split at h
      · cases h
      · simp only [vlN]; omega
    · cases h
theorem fdN_v {B : Nat → Nat} {n i hi : Nat} {s : pRS} {q : Nat} (h : fdN B n i hi s = .inr q) : fvN B n i s ≤ hi ∧ ∃ q', s = .inr q' := by
  refine ⟨(rdN_v h).2, ?_⟩
  cases s with
  | inl e => cases h
  | inr p => exact ⟨p, rfl⟩
theorem opN_v {B : Nat → Nat} {n i hi : Nat} {s : pRS} {q : Nat} (h : opN B n i hi s = .inr q) : opV B n i s ≤ hi ∧ ∃ q', s = .inr q' := by
  unfold opN at h
  unfold opV
  split at h
  · rename_i c
    rw [if_pos c]
    refine ⟨(rdN_v h).2, ?_⟩
    cases s with
    | inl e => cases h
    | inr p => exact ⟨p, rfl⟩
  · rename_i c
    rw [if_neg c]
    exact ⟨Nat.zero_le _, q, h⟩
theorem nmS_v {B : Nat → Nat} {n : Nat} {L : List (List Nat)} {s : pRS} {q : Nat} (h : nmS B n L s = .inr q) : ∃ p, s = .inr p ∧ isNm B n p = true ∧ tL B n p ∉ L := by
  cases s with
  | inl e => cases h
  | inr p =>
    simp only [nmS] at h
    split at h
    · rename_i c
      split at h
      · cases h
      · rename_i d
        exact ⟨p, rfl, c, fun z => d (by simpa using z)⟩
    · cases h
theorem upN_n {H : pN} {k v j : Nat} (h : j ≠ k) : upN H k v j = H j := if_neg h
theorem upN_e {H : pN} {k v : Nat} : upN H k v k = v := if_pos rfl
theorem fo_r {B : Nat → Nat} {n p : Nat} (hp : p ≤ n) {q : Nat} (h : psR (foP B n p) = .inr q) : psU (foP B n p) ≤ 30 ∧ wfp (psO (foP B n p)) 0 ∧ (psO (foP B n p)).length ≤ 269 ∧ okO (psO (foP B n p)) := by
  cases e : foP B n p with
  | inl a => rw [e] at h; cases h
  | inr x =>
    obtain ⟨q, e1, e2⟩ := foP_r e
    obtain ⟨p0, e3, k⟩ := leR.st (B := B) (n := n) (p := p) q e1
    cases e3
    have b := fo_ok (k hp).1 e2
    exact ⟨b.2.2.1, b.2.2.2.1, b.2.2.2.2.1, b.2.2.2.2.2⟩
theorem ln1_r {B : Nat → Nat} {n p q : Nat} {b : Bool} {D : pDt} (hp : p ≤ n) (hr : rDt D) (hz : b = true → z0 D) (h : (ln1 B n p b D).1 = .inr q) : rDt (ln1 B n p b D).2 := by
  obtain ⟨a0, a1, a2, a3, a4, a5, a6, a7, a8, a9⟩ := id hr
  unfold ln1 at h ⊢
  by_cases c1 : tkWb B n p 1 = true ∧ b = true
  · rw [if_pos c1] at h ⊢
    obtain ⟨z1, z2, z3⟩ := hz c1.2
    simp only [stL] at h ⊢
    have k := opN_v h
    obtain ⟨q', hq'⟩ := k.2
    have k2 := rdN_v hq'
    unfold rDt
    dsimp only
    refine ⟨?_, ?_, ?_, ?_, ?_, fun j hj => ?_, ?_, a7, a8, a9⟩
    · rw [upN_n (by omega), upN_e]; exact k2
    · rw [upN_n (by omega), upN_n (by omega)]; exact a1
    · rw [upN_e, upN_n (by omega), upN_e]; exact k.1
    · rw [upN_n (by omega), upN_n (by omega)]; exact a3
    · rw [upN_n (by omega), upN_n (by omega)]; exact a4
    · have := a5 j hj
      have z := z3 j hj
      have u : ∀ m, m ≠ 0 → m ≠ 2 → upN (upN D.1 0 (vlN B n (stp B n p))) 2 (opV B n 2 (rdN B n 1 20 (stp B n p))) m = D.1 m := fun m x y => by rw [upN_n y, upN_n x]
      rw [u (8 + j) (by omega) (by omega), u (16 + j) (by omega) (by omega), u (24 + j) (by omega) (by omega), u (32 + j) (by omega) (by omega), u (40 + j) (by omega) (by omega), z]
      exact ⟨Nat.zero_le _, this.2.1, this.2.2.1, this.2.2.2.1, this.2.2.2.2⟩
    · rw [upN_n (by omega), upN_n (by omega)]; exact a6
  · rw [if_neg c1] at h ⊢
    by_cases c3 : tkWb B n p 3 = true ∧ D.1 1 < 8
    · rw [if_pos c3] at h ⊢
      have h5 : tn5 B n p D = .inr q := h
      have k5 := opN_v h5
      obtain ⟨q4, e4⟩ := k5.2
      have k4 := fdN_v e4
      obtain ⟨q3, e3⟩ := k4.2
      have k3 := fdN_v e3
      obtain ⟨q2, e2⟩ := k3.2
      have k2 := fdN_v e2
      obtain ⟨q1, e1⟩ := k2.2
      have k1 := fdN_v e1
      obtain ⟨q0, e0⟩ := k1.2
      obtain ⟨p1, f1, f2, f3⟩ := nmS_v e0
      have hl : okW (nmL B n (stp B n p)) := by
        rw [f1]
        obtain ⟨p0, e6, k⟩ := leR.st (B := B) (n := n) (p := p) p1 f1
        cases e6
        exact tL_ok (k hp).1 (isNm_y f2).1
      have u : ∀ m, m ≠ 1 → m ≠ 8 + D.1 1 → m ≠ 16 + D.1 1 → m ≠ 24 + D.1 1 → m ≠ 32 + D.1 1 → m ≠ 40 + D.1 1 → tnH B n p D m = D.1 m := fun m x1 x2 x3 x4 x5 x6 => by
        unfold tnH
        rw [upN_n x1, upN_n x6, upN_n x5, upN_n x4, upN_n x3, upN_n x2]
      have w1 : tnH B n p D 1 = D.1 1 + 1 := upN_e
      have w8 : tnH B n p D (8 + D.1 1) = fvN B n 5 (tn0 B n p D) := by unfold tnH; rw [upN_n (by omega), upN_n (by omega), upN_n (by omega), upN_n (by omega), upN_n (by omega), upN_e]
      have w16 : tnH B n p D (16 + D.1 1) = fvN B n 6 (tn1 B n p D) := by unfold tnH; rw [upN_n (by omega), upN_n (by omega), upN_n (by omega), upN_n (by omega), upN_e]
      have w24 : tnH B n p D (24 + D.1 1) = fvN B n 7 (tn2 B n p D) := by unfold tnH; rw [upN_n (by omega), upN_n (by omega), upN_n (by omega), upN_e]
      have w32 : tnH B n p D (32 + D.1 1) = fvN B n 8 (tn3 B n p D) := by unfold tnH; rw [upN_n (by omega), upN_n (by omega), upN_e]
      have w40 : tnH B n p D (40 + D.1 1) = opV B n 9 (tn4 B n p D) := by unfold tnH; rw [upN_n (by omega), upN_e]
      have v0 : tnH B n p D 0 = D.1 0 := u 0 (by omega) (by omega) (by omega) (by omega) (by omega) (by omega)
      have v2 : tnH B n p D 2 = D.1 2 := u 2 (by omega) (by omega) (by omega) (by omega) (by omega) (by omega)
      have v3 : tnH B n p D 3 = D.1 3 := u 3 (by omega) (by omega) (by omega) (by omega) (by omega) (by omega)
      have v4 : tnH B n p D 4 = D.1 4 := u 4 (by omega) (by omega) (by omega) (by omega) (by omega) (by omega)
      refine ⟨?_, ?_, ?_, ?_, ?_, fun j hj => ?_, ?_, ?_, a8, a9⟩
      · show 1 ≤ tnH B n p D 0 ∧ tnH B n p D 0 ≤ 20
        rw [v0]; exact a0
      · show tnH B n p D 1 ≤ 8
        omega
      · show tnH B n p D 2 ≤ tnH B n p D 0
        rw [v0, v2]; exact a2
      · show tnH B n p D 3 ≤ 999
        rw [v3]; exact a3
      · show tnH B n p D 4 ≤ _
        rw [v4]; exact a4
      · show tnH B n p D (8 + j) ≤ tnH B n p D 0 ∧ tnH B n p D (16 + j) ≤ 40 ∧ tnH B n p D (24 + j) ≤ 9 ∧ tnH B n p D (32 + j) ≤ 999 ∧ tnH B n p D (40 + j) ≤ 100
        rw [v0]
        by_cases c : j = D.1 1
        · rw [c, w8, w16, w24, w32, w40]
          exact ⟨k1.1, k2.1, k3.1, k4.1, k5.1⟩
        · rw [u (8 + j) (by omega) (by omega) (by omega) (by omega) (by omega) (by omega), u (16 + j) (by omega) (by omega) (by omega) (by omega) (by omega) (by omega), u (24 + j) (by omega) (by omega) (by omega) (by omega) (by omega) (by omega), u (32 + j) (by omega) (by omega) (by omega) (by omega) (by omega) (by omega), u (40 + j) (by omega) (by omega) (by omega) (by omega) (by omega) (by omega)]
          exact a5 j hj
      · show (D.2.1 ++ [_]).length = tnH B n p D 1
        rw [w1, List.length_append, List.length_singleton, a6]
      · intro L hL
        rcases List.mem_append.mp hL with z | z
        · exact a7 L z
        · rw [List.mem_singleton] at z; rw [z]; exact hl
    · rw [if_neg c3] at h ⊢
      have fo : ∀ H, H = upN D.1 4 (D.1 4 + psU (foP B n p)) → (∀ m, m ≠ 4 → H m = D.1 m) ∧ H 4 = D.1 4 + psU (foP B n p) := fun H e => by rw [e]; exact ⟨fun m hm => upN_n hm, upN_e⟩
      obtain ⟨u1, u2⟩ := fo _ rfl
      by_cases c10 : tkWb B n p 10 = true ∧ D.2.2.1 = none
      · rw [if_pos c10] at h ⊢
        have k := fo_r hp h
        unfold rDt
        dsimp only
        refine ⟨?_, ?_, ?_, ?_, ?_, fun j hj => ?_, ?_, a7, fun w hw => ?_, a9⟩
        · rw [u1 0 (by omega)]; exact a0
        · rw [u1 1 (by omega)]; exact a1
        · rw [u1 2 (by omega), u1 0 (by omega)]; exact a2
        · rw [u1 3 (by omega)]; exact a3
        · rw [u2]
          rw [if_pos c10.2] at a4
          rw [if_neg (by simp)]
          omega
        · rw [u1 _ (by omega), u1 _ (by omega), u1 _ (by omega), u1 _ (by omega), u1 _ (by omega), u1 _ (by omega)]; exact a5 j hj
        · rw [u1 1 (by omega)]; exact a6
        · cases hw; exact ⟨k.2.1, k.2.2.1, k.2.2.2⟩
      · rw [if_neg c10] at h ⊢
        by_cases c17 : tkWb B n p 17 = true ∧ D.2.2.2.1 = none
        · rw [if_pos c17] at h ⊢
          have k := fo_r hp h
          unfold rDt
          dsimp only
          refine ⟨?_, ?_, ?_, ?_, ?_, fun j hj => ?_, ?_, a7, a8, fun w hw => ?_⟩
          · rw [u1 0 (by omega)]; exact a0
          · rw [u1 1 (by omega)]; exact a1
          · rw [u1 2 (by omega), u1 0 (by omega)]; exact a2
          · rw [u1 3 (by omega)]; exact a3
          · rw [u2]
            rw [if_pos c17.2] at a4
            rw [if_neg (show ¬ (some (psO (foP B n p)) = none) by simp)]
            omega
          · rw [u1 _ (by omega), u1 _ (by omega), u1 _ (by omega), u1 _ (by omega), u1 _ (by omega), u1 _ (by omega)]; exact a5 j hj
          · rw [u1 1 (by omega)]; exact a6
          · cases hw; exact ⟨k.2.1, k.2.2.1, k.2.2.2⟩
        · rw [if_neg c17] at h ⊢
          by_cases c18 : tkWb B n p 18 = true ∧ D.2.2.2.2 = false
          · rw [if_pos c18] at h ⊢
            have k := rdN_v h
            unfold rDt
            dsimp only
            refine ⟨?_, ?_, ?_, ?_, ?_, fun j hj => ?_, ?_, a7, a8, a9⟩
            · rw [upN_n (by omega)]; exact a0
            · rw [upN_n (by omega)]; exact a1
            · rw [upN_n (by omega), upN_n (by omega)]; exact a2
            · rw [upN_e]; exact k.2
            · rw [upN_n (by omega)]; exact a4
            · rw [upN_n (by omega), upN_n (by omega), upN_n (by omega), upN_n (by omega), upN_n (by omega), upN_n (by omega)]; exact a5 j hj
            · rw [upN_n (by omega)]; exact a6
          · rw [if_neg c18] at h; cases h
theorem lnL_r {B : Nat → Nat} {n p q : Nat} {b : Bool} {D : pDt} (hp : p ≤ n) (hr : rDt D) (hz : b = true → z0 D) (h : (lnL B n p b D).1 = .inr q) : rDt (lnL B n p b D).2 := by
  unfold lnL at h ⊢
  simp only at h ⊢
  cases e : (ln1 B n p b D).1 with
  | inl a => rw [e] at h; cases h
  | inr r => exact ln1_r hp hr hz e
theorem D0_r : rDt D0 ∧ z0 D0 := by
  refine ⟨⟨by decide, by decide, by decide, by decide, by decide, fun j hj => ?_, rfl, fun L h => (by cases h), fun w h => (by cases h), fun w h => (by cases h)⟩, rfl, rfl, fun j hj => ?_⟩
  · show (if 8 + j = 0 then 9 else 0) ≤ _ ∧ (if 16 + j = 0 then 9 else 0) ≤ _ ∧ (if 24 + j = 0 then 9 else 0) ≤ _ ∧ (if 32 + j = 0 then 9 else 0) ≤ _ ∧ (if 40 + j = 0 then 9 else 0) ≤ _
    rw [if_neg (by omega), if_neg (by omega), if_neg (by omega), if_neg (by omega), if_neg (by omega)]
    omega
  · show (if 8 + j = 0 then 9 else 0) = 0
    rw [if_neg (by omega)]
theorem lns_e {B : Nat → Nat} {n m : Nat} {e : Nat × Nat} {b : Bool} {D : pDt} : lns B n m (.inl e) b D = (.inl e, D) := by cases m <;> rfl
theorem lns_z {B : Nat → Nat} {n m p : Nat} {b : Bool} {D : pDt} (h : tK B n p = 0) : lns B n m (.inr p) b D = (.inr p, D) := by
  cases m with
  | zero => rfl
  | succ m => rw [lns, if_pos h]
theorem lns_s {B : Nat → Nat} {n m p : Nat} {b : Bool} {D : pDt} (h : tK B n p ≠ 0) : lns B n (m + 1) (.inr p) b D = lns B n m (lnL B n p b D).1 false (lnL B n p b D).2 := by rw [lns, if_neg h]
theorem lns_r {B : Nat → Nat} {n : Nat} : ∀ (m p q : Nat) (b : Bool) (D : pDt), p ≤ n → n < p + m → rDt D → (b = true → z0 D) → (lns B n m (.inr p) b D).1 = .inr q → rDt (lns B n m (.inr p) b D).2 ∧ q ≤ n ∧ tK B n q = 0 := by
  intro m
  induction m with
  | zero => intro p q b D hp hm; omega
  | succ m ih =>
    intro p q b D hp hm hr hz h
    by_cases c : tK B n p = 0
    · rw [lns_z c] at h ⊢
      cases h
      exact ⟨hr, hp, c⟩
    · rw [lns_s c] at h ⊢
      cases e : (lnL B n p b D).1 with
      | inl a => rw [e, lns_e] at h; cases h
      | inr r =>
        rw [e] at h
        have k := lnL_lt hp e
        exact ih r q false _ k.1 (by omega) (lnL_r hp hr hz e) (fun z => by cases z) h
theorem txt_r {B : Nat → Nat} {n q : Nat} (h : (txt B n).1 = .inr q) : rDt (txt B n).2 := by
  unfold txt at h ⊢
  unfold sOf at h ⊢
  split at h
  · cases h
  · rename_i c
    rw [if_neg c]
    exact (lns_r (n + 1) 0 q true D0 (Nat.zero_le _) (by omega) D0_r.1 (fun _ => D0_r.2) h).1
