/-! WHAT HOLDS BETWEEN TWO CALLS OF THE LAW: the class's cells and the model's hold one and the same state -/
def rlH (t : Nat) (H : pN) (p0 p1 pc pm : pP) (I : pHI) : Prop := (cH t H I ∧ mH H I ∧ rH H) ∧ (cF (t + 6) pc I ∧ cF (t + 10) pm I ∧ wfp pc 0 ∧ wfp pm 0) ∧ mF 0 p0 I ∧ mF 1 p1 I ∧ fR 0 p0 pc ∧ fR 1 p1 pm ∧ (p0 = [] ∨ wfp p0 0) ∧ (p1 = [] ∨ wfp p1 0)
def rlS (H T : pN) (I : pHI) : Prop := cS 33 T I ∧ mS 90 T I ∧ rS 999 H T
def rlK (H T : pN) (od d u : Nat) (G : Nat → pN) (I : pHI) : Prop := cK I od d u G ∧ mK I d u G ∧ (∀ q, G d q = T q) ∧ ∀ i, i ≤ d + u → rS 999 H (G i)
def rlB (H : pN) (F : Nat → Bool) (Bx : Nat → pN) (I : pHI) : Prop := cB 44 43 I F Bx ∧ cB 107 108 I F Bx ∧ ∀ b, b < 3 → F b = true → rS 999 H (Bx b)
def rlL (nL : Nat) (L : Nat → Int32) (I : pHI) : Prop := cL 45 1 46 I nL L ∧ cL 67 52 94 I nL L
def rlM (H : pN) (m um : Nat) (M : pMk) (I : pHI) : Prop := cM I m um M ∧ mM I m um M ∧ rM H m um M
def rlT (n : Nat) (Bt : Nat → Nat) (I : pHI) : Prop := cTp I n Bt ∧ mTp I n Bt
def rlF (I : pHI) : Prop := I 2 6 = I 67 2 ∧ I 2 7 = I 67 3
def kp (P : Nat → Nat → Prop) (I I' : pHI) : Prop := ∀ c k, P c k → I' c k = I c k
def pcH (t c k : Nat) : Prop := (t ≤ c ∧ c ≤ t + 5) ∨ (c = t + 6 ∧ k = 2) ∨ c = t + 7 ∨ c = t + 8 ∨ (c = t + 10 ∧ k = 2) ∨ c = t + 11 ∨ c = t + 12 ∨ (c = 67 ∧ (k = 41 ∨ k = 42 ∨ k = 23)) ∨ (73 ≤ c ∧ c ≤ 75) ∨ (85 ≤ c ∧ c ≤ 89)
def pcS (c _k : Nat) : Prop := (33 ≤ c ∧ c ≤ 36) ∨ c = 90
def pcK (c k : Nat) : Prop := c = 41 ∨ c = 42 ∨ c = 92 ∨ (c = 67 ∧ (k = 48 ∨ k = 49))
def pcB (c _k : Nat) : Prop := c = 43 ∨ c = 44 ∨ c = 107 ∨ c = 108
def pcL (c k : Nat) : Prop := (c = 45 ∧ k = 1) ∨ c = 46 ∨ c = 94 ∨ (c = 67 ∧ k = 52)
def pcM (c k : Nat) : Prop := (c = 47 ∧ (k = 5 ∨ k = 6)) ∨ (48 ≤ c ∧ c ≤ 52) ∨ (c = 67 ∧ (k = 64 ∨ k = 65)) ∨ (101 ≤ c ∧ c ≤ 105)
def pcT (c k : Nat) : Prop := (c = 0 ∧ k = 1) ∨ c = 1 ∨ (c = 67 ∧ k = 1) ∨ c = 68
def pcF (c k : Nat) : Prop := (c = 2 ∧ (k = 6 ∨ k = 7)) ∨ (c = 67 ∧ (k = 2 ∨ k = 3))
theorem mH.kp {H : pN} {t : Nat} {I I' : pHI} (h : mH H I) (f : kp (pcH t) I I') : mH H I' := by
  obtain ⟨a, b, c, d⟩ := h
  refine ⟨(f 67 41 (by unfold pcH; omega)).trans a, (f 67 42 (by unfold pcH; omega)).trans b, (f 67 23 (by unfold pcH; omega)).trans c, fun j hj => ?_⟩
  rw [f 85 j (by unfold pcH; omega), f 86 j (by unfold pcH; omega), f 87 j (by unfold pcH; omega), f 88 j (by unfold pcH; omega), f 89 j (by unfold pcH; omega)]
  exact d j hj
theorem mF.kp {w t : Nat} {p : pP} {I I' : pHI} (h : mF w p I) (f : kp (pcH t) I I') : mF w p I' :=
  ⟨h.1, (f 75 w (by unfold pcH; omega)).trans h.2.1, fun i k m e => by
    rw [f 73 _ (by unfold pcH; omega), f 74 _ (by unfold pcH; omega)]
    exact h.2.2 i k m e⟩
theorem rlH.kp {t : Nat} {H : pN} {p0 p1 pc pm : pP} {I I' : pHI} (h : rlH t H p0 p1 pc pm I) (f : kp (pcH t) I I') : rlH t H p0 p1 pc pm I' := by
  obtain ⟨⟨a1, a2, a3⟩, ⟨b1, b2, b3, b4⟩, c1, c2, c3⟩ := h
  refine ⟨⟨a1.fr (fun k hk => f _ _ (by unfold pcH; omega)) (fun c i h1 h2 => f _ _ (by unfold pcH; omega)), a2.kp f, a3⟩, ⟨?_, ?_, b3, b4⟩, c1.kp f, c2.kp f, c3⟩
  · exact b1.fr (f _ _ (by unfold pcH; omega)) (fun i => f _ _ (by unfold pcH; omega)) (fun i => f _ _ (by unfold pcH; omega))
  · exact b2.fr (f _ _ (by unfold pcH; omega)) (fun i => f _ _ (by unfold pcH; omega)) (fun i => f _ _ (by unfold pcH; omega))
theorem mS.fr {T : pN} {I I' : pHI} (h : mS 90 T I) (f : ∀ k, I' 90 k = I 90 k) : mS 90 T I' := fun k hk => (f k).trans (h k hk)
theorem rlS.kp {H T : pN} {I I' : pHI} (h : rlS H T I) (f : kp pcS I I') : rlS H T I' := ⟨h.1.fr (fun c k h1 h2 => f c k (by unfold pcS; omega)), h.2.1.fr (fun k => f _ _ (by unfold pcS; omega)), h.2.2⟩
theorem rlK.kp {H T : pN} {od d u : Nat} {G : Nat → pN} {I I' : pHI} (h : rlK H T od d u G I) (f : kp pcK I I') : rlK H T od d u G I' := ⟨h.1.off (fun c k e => f c k (by unfold pcK; omega)), h.2.1.off (fun c k e => f c k (by unfold pcK; omega)), h.2.2⟩
theorem rlB.kp {H : pN} {F : Nat → Bool} {Bx : Nat → pN} {I I' : pHI} (h : rlB H F Bx I) (f : kp pcB I I') : rlB H F Bx I' := ⟨h.1.off (fun k => f _ _ (by unfold pcB; omega)) (fun k => f _ _ (by unfold pcB; omega)), h.2.1.off (fun k => f _ _ (by unfold pcB; omega)) (fun k => f _ _ (by unfold pcB; omega)), h.2.2⟩
theorem cL.fr {c1 k1 c2 n : Nat} {L : Nat → Int32} {I I' : pHI} (h : cL c1 k1 c2 I n L) (f1 : I' c1 k1 = I c1 k1) (f2 : ∀ k, I' c2 k = I c2 k) : cL c1 k1 c2 I' n L := ⟨f1.trans h.1, h.2.1, fun i hi => (f2 i).trans (h.2.2 i hi)⟩
theorem rlL.kp {nL : Nat} {L : Nat → Int32} {I I' : pHI} (h : rlL nL L I) (f : kp pcL I I') : rlL nL L I' := ⟨h.1.fr (f _ _ (by unfold pcL; omega)) (fun k => f _ _ (by unfold pcL; omega)), h.2.fr (f _ _ (by unfold pcL; omega)) (fun k => f _ _ (by unfold pcL; omega))⟩
theorem cM.kp {m um : Nat} {M : pMk} {I I' : pHI} (h : cM I m um M) (f : kp pcM I I') : cM I' m um M := by
  obtain ⟨a, b, c⟩ := h
  refine ⟨(f _ _ (by unfold pcM; omega)).trans a, (f _ _ (by unfold pcM; omega)).trans b, fun i hi => ?_⟩
  rw [f 48 i (by unfold pcM; omega), f 49 i (by unfold pcM; omega), f 50 i (by unfold pcM; omega), f 51 i (by unfold pcM; omega), f 52 i (by unfold pcM; omega)]
  exact c i hi
theorem mM.kp {m um : Nat} {M : pMk} {I I' : pHI} (h : mM I m um M) (f : kp pcM I I') : mM I' m um M := by
  obtain ⟨a, b, c⟩ := h
  refine ⟨(f _ _ (by unfold pcM; omega)).trans a, (f _ _ (by unfold pcM; omega)).trans b, fun i hi => ?_⟩
  rw [f 101 i (by unfold pcM; omega), f 102 i (by unfold pcM; omega), f 103 i (by unfold pcM; omega), f 104 i (by unfold pcM; omega), f 105 i (by unfold pcM; omega)]
  exact c i hi
theorem rlM.kp {H : pN} {m um : Nat} {M : pMk} {I I' : pHI} (h : rlM H m um M I) (f : kp pcM I I') : rlM H m um M I' := ⟨h.1.kp f, h.2.1.kp f, h.2.2⟩
theorem rlT.kp {n : Nat} {Bt : Nat → Nat} {I I' : pHI} (h : rlT n Bt I) (f : kp pcT I I') : rlT n Bt I' := by
  obtain ⟨⟨a, b, c⟩, a', b', c'⟩ := h
  refine ⟨⟨(f _ _ (by unfold pcT; omega)).trans a, b, fun i hi => ?_⟩, (f _ _ (by unfold pcT; omega)).trans a', b', fun i hi => ?_⟩
  · rw [f 1 i (by unfold pcT; omega)]; exact c i hi
  · rw [f 68 i (by unfold pcT; omega)]; exact c' i hi
theorem rlF.kp {I I' : pHI} (h : rlF I) (f : kp pcF I I') : rlF I' := by
  unfold rlF
  rw [f 2 6 (by unfold pcF; omega), f 2 7 (by unfold pcF; omega), f 67 2 (by unfold pcF; omega), f 67 3 (by unfold pcF; omega)]
  exact h

def relD (H T : pN) (p0 p1 pc pm : pP) (od d u : Nat) (G : Nat → pN) (F : Nat → Bool) (Bx : Nat → pN) (nL : Nat) (L : Nat → Int32) (m um : Nat) (M : pMk) (n : Nat) (Bt : Nat → Nat) (t g : Nat) (I : pHI) : Prop := (isH t ∧ isH g ∧ t ≠ g) ∧ rlH t H p0 p1 pc pm I ∧ rlS H T I ∧ rlK H T od d u G I ∧ rlB H F Bx I ∧ rlL nL L I ∧ rlM H m um M I ∧ rlT n Bt I ∧ rlF I
def Rel (t g : Nat) (I : pHI) : Prop := ∃ (H T : pN) (p0 p1 pc pm : pP) (od d u : Nat) (G : Nat → pN) (F : Nat → Bool) (Bx : Nat → pN) (nL : Nat) (L : Nat → Int32) (m um : Nat) (M : pMk) (n : Nat) (Bt : Nat → Nat), relD H T p0 p1 pc pm od d u G F Bx nL L m um M n Bt t g I
def kA (t : Nat) (I I' : pHI) : Prop := kp (pcH t) I I' ∧ kp pcS I I' ∧ kp pcK I I' ∧ kp pcB I I' ∧ kp pcL I I' ∧ kp pcM I I' ∧ kp pcT I I' ∧ kp pcF I I'
theorem relD.kA {H T : pN} {p0 p1 pc pm : pP} {od d u : Nat} {G : Nat → pN} {F : Nat → Bool} {Bx : Nat → pN} {nL : Nat} {L : Nat → Int32} {m um : Nat} {M : pMk} {n : Nat} {Bt : Nat → Nat} {t g : Nat} {I I' : pHI} (h : relD H T p0 p1 pc pm od d u G F Bx nL L m um M n Bt t g I) (f : kA t I I') : relD H T p0 p1 pc pm od d u G F Bx nL L m um M n Bt t g I' := by
  obtain ⟨a, b1, b2, b3, b4, b5, b6, b7, b8⟩ := h
  obtain ⟨f1, f2, f3, f4, f5, f6, f7, f8⟩ := f
  exact ⟨a, b1.kp f1, b2.kp f2, b3.kp f3, b4.kp f4, b5.kp f5, b6.kp f6, b7.kp f7, b8.kp f8⟩
theorem kA.rf {t : Nat} {I : pHI} : kA t I I := ⟨fun _ _ _ => rfl, fun _ _ _ => rfl, fun _ _ _ => rfl, fun _ _ _ => rfl, fun _ _ _ => rfl, fun _ _ _ => rfl, fun _ _ _ => rfl, fun _ _ _ => rfl⟩
theorem kA.of {t : Nat} {I I' : pHI} (ht : isH t) (f : ∀ c k, ¬ scF c k → ¬ (37 ≤ c ∧ c ≤ 40) → ¬ (54 ≤ c ∧ c ≤ 61) → ¬ (c = 47 ∧ 7 ≤ k) → c ≠ 53 → ¬ scM c → I' c k = I c k) : kA t I I' := by
  have ht' : t = 5 ∨ t = 19 := ht
  refine ⟨fun c k h => ?_, fun c k h => ?_, fun c k h => ?_, fun c k h => ?_, fun c k h => ?_, fun c k h => ?_, fun c k h => ?_, fun c k h => ?_⟩
  all_goals (simp only [pcH, pcS, pcK, pcB, pcL, pcM, pcT, pcF] at h; refine f c k ?_ ?_ ?_ ?_ ?_ ?_ <;> (try simp only [scF, scM]) <;> rcases ht' with rfl | rfl <;> omega)

theorem kA.sb {t : Nat} {I I' : pHI} (ht : isH t) (f : sb I I') : kA t I I' := kA.of ht (fun c k a b e3 e4 e5 e6 => f c k a)
theorem kA.sx {t : Nat} {I I' : pHI} (ht : isH t) (f : sx 37 I I') : kA t I I' := kA.of ht (fun c k a b e3 e4 e5 e6 => f c k a b)
theorem kA.sm {t : Nat} {I I' : pHI} (ht : isH t) (f : sm I I') : kA t I I' := kA.of ht (fun c k a b e3 e4 e5 e6 => f c k a (fun e => e6 (Or.inl e)))
theorem kA.sz {t : Nat} {I I' : pHI} (ht : isH t) (f : sz I I') : kA t I I' := kA.of ht (fun c k a b e3 e4 e5 e6 => f c k a e6)
theorem kA.sC {t : Nat} {I I' : pHI} (ht : isH t) (f : sC I I') : kA t I I' := kA.of ht (fun c k a b e3 e4 e5 e6 => f c k e4 e5)
theorem kA.sQ {t : Nat} {I I' : pHI} (ht : isH t) (f : sQ I I') : kA t I I' := kA.of ht (fun c k a b e3 e4 e5 e6 => f c k a (by omega))
theorem kA.sN {t : Nat} {I I' : pHI} (ht : isH t) (f : sN I I') : kA t I I' := kA.of ht (fun c k a b e3 e4 e5 e6 => f c k a (by omega))
