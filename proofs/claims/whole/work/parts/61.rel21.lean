/-! what CLIMBS this week come to -/
def gC (p : pP) (T : pN) (s b : Nat) : Nat := cntN p T s 0 0 (T 24 + b)
theorem gC_le (p : pP) (T : pN) (s b : Nat) : gC p T s b ≤ 999 := clp_le _ _
def lgN (H T : pN) (a : Nat) : Nat := min 20 (min (H 0) (T a))
/-- the plan's rows of what climbs count -/
def ctI (I : pHI) (p : pP) (T : pN) (br lg : Nat) : Prop := I 59 0 = nI br ∧ I 59 1 = nI lg ∧ ∀ s b, 1 ≤ s → s ≤ lg → b + s ≤ br → I 60 (s * 41 + b) = nI (gC p T s b)
def mxI (I : pHI) (k : Nat) (A : List Nat → Prop) (f : List Nat → Nat) : Prop := ∃ o, I 61 k = oI o ∧ isM A f o ∧ ∀ x, o = some x → x ≤ 39960
/-- what planning may write -/
def sN (I I' : pHI) : Prop := ∀ c k, ¬ scF c k → ¬ (59 ≤ c ∧ c ≤ 61) → I' c k = I c k
theorem sN.rf {I : pHI} : sN I I := fun _ _ _ _ => rfl
theorem sN.tr {I I1 I2 : pHI} (h1 : sN I I1) (h2 : sN I1 I2) : sN I I2 := fun c k a b => (h2 c k a b).trans (h1 c k a b)
theorem sb.sN {I I' : pHI} (h : sb I I') : sN I I' := fun c k a _ => h c k a
theorem sN.p {I I1 : pHI} {c k : Nat} {x : Int32} (h : sN I I1) (hc : 59 ≤ c ∧ c ≤ 61) : sN I (pu I1 c k x) := fun c' k' a b => by
  rw [pu_ne _ _ _ (fun e => b (by rw [e]; exact hc))]; exact h c' k' a b
theorem cH.sN {o : Nat} {H : pN} {I I' : pHI} (ho : isH o) (h : cH o H I) (hb : sN I I') : cH o H I' :=
  h.off (fun c k a b => hb c k (by rcases ho with rfl | rfl <;> (simp only [scF]; omega)) (by rcases ho with rfl | rfl <;> omega))
theorem cS.sN {T : pN} {I I' : pHI} (h : cS 33 T I) (hb : sN I I') : cS 33 T I' := by
  obtain ⟨h1, h2, h3, h4, h5⟩ := h
  have n : ∀ c k, 33 ≤ c → c ≤ 36 → I' c k = I c k := fun c k a b => hb c k (by simp only [scF]; omega) (by omega)
  exact ⟨by rw [n 33 _ (by omega) (by omega)]; exact h1, by rw [n 33 _ (by omega) (by omega)]; exact h2, by rw [n 33 _ (by omega) (by omega)]; exact h3, by rw [n 33 _ (by omega) (by omega)]; exact h4, fun j hj => by
    rw [n 34 _ (by omega) (by omega), n 35 _ (by omega) (by omega), n 36 _ (by omega) (by omega)]
    exact h5 j hj⟩
theorem cF.sN {f : Nat} {p : pP} {I I' : pHI} (hf : isF f) (h : cF f p I) (hb : sN I I') : cF f p I' := by
  obtain ⟨h1, h2, h3⟩ := h
  have n : ∀ c k, f ≤ c → c ≤ f + 2 → (c = f → k ≠ 4) → I' c k = I c k := fun c k a b d => hb c k (by rcases hf with rfl | rfl | rfl | rfl <;> (simp only [scF]; omega)) (by rcases hf with rfl | rfl | rfl | rfl <;> omega)
  refine ⟨h1, by rw [n f 2 (by omega) (by omega) (by omega)]; exact h2, fun i q hi => ?_⟩
  rw [n (f + 1) _ (by omega) (by omega) (by omega), n (f + 2) _ (by omega) (by omega) (by omega)]
  exact h3 i q hi
theorem ctI.p61 {I : pHI} {p : pP} {T : pN} {br lg k : Nat} {x : Int32} (h : ctI I p T br lg) : ctI (pu I 61 k x) p T br lg := by
  obtain ⟨h1, h2, h3⟩ := h
  exact ⟨by rw [pu_ne _ _ _ (by decide)]; exact h1, by rw [pu_ne _ _ _ (by decide)]; exact h2, fun s b a c d => by rw [pu_ne _ _ _ (by decide)]; exact h3 s b a c d⟩
theorem ctI.o61 {I I' : pHI} {p : pP} {T : pN} {br lg : Nat} (h : ctI I p T br lg) (f : ∀ c k, c ≠ 61 → I' c k = I c k) : ctI I' p T br lg := by
  obtain ⟨h1, h2, h3⟩ := h
  exact ⟨by rw [f _ _ (by decide)]; exact h1, by rw [f _ _ (by decide)]; exact h2, fun s b a c d => by rw [f _ _ (by decide)]; exact h3 s b a c d⟩
theorem isM_le {p : pP} {T : pN} {n b q : Nat} {A : List Nat → Prop} {o : Option Nat} (h : isM A (vlL (gC p T) b) o) (hA : ∀ L, A L → okL n L ∧ smL L ≤ q) (hq : q ≤ 40) : ∀ x, o = some x → x ≤ 39960 := by
  intro x e
  subst e
  obtain ⟨⟨L, a1, a2⟩, _⟩ := h
  have h1 := hA L a1
  have h2 := vl_le2 (g := gC p T) (n := n) (fun s b => gC_le p T s b) L b h1.1
  have h3 := Nat.mul_le_mul_left 999 h1.2
  omega
/-- whether a row will do: all is paid by it -/
def fwV (p : pP) (H T : pN) (a : Nat) (L : List Nat) : Prop := okL (H 0) L ∧ smL L ≤ T a ∧ H (32 + a) + T (16 + a) ≤ 9999 ∧ lackN H T a ≤ vlL (gC p T) 0 L
/-- the best row of at most four climbs -/
def fwB (p : pP) (H T : pN) (a : Nat) (G : List Nat) : Prop := (G.length ≤ 4 ∧ fwV p H T a G) ∧ (∀ L, fwV p H T a L → G.length ≤ L.length) ∧ (∀ L, fwV p H T a L → L.length = G.length → smL G ≤ smL L) ∧ ∀ L, fwV p H T a L → L.length = G.length → smL L = smL G → lxL G L
theorem fw_uniq {p : pP} {H T : pN} {a : Nat} {G K : List Nat} (h : fwB p H T a G) (k : fwB p H T a K) : G = K := by
  obtain ⟨⟨h1, h2⟩, h3, h4, h5⟩ := h
  obtain ⟨⟨k1, k2⟩, k3, k4, k5⟩ := k
  have e1 : G.length = K.length := Nat.le_antisymm (h3 K k2) (k3 G h2)
  have e2 : smL G = smL K := Nat.le_antisymm (h4 K k2 e1.symm) (k4 G h2 e1)
  exact lx_anti e1 (h5 K k2 e1.symm e2.symm) (k5 G h2 e1 e2)
/-- how a LACK compares -/
theorem lk_cmp {v lk ac : Nat} (h1 : v ≤ 1000000) (h2 : lk ≤ 200000000) (h3 : ac ≤ 1000000) : (nI v < nI lk - nI ac ↔ v + ac < lk) := by
  rw [Int32.lt_iff_toInt_lt, Int32.toInt_sub, nI_toInt (by omega), nI_toInt (by omega), nI_toInt (by omega), Int.bmod_def]
  omega
theorem sub_add2 (a b c : Nat) : nI a - nI b - nI c = nI a - nI (b + c) := by
  rw [show nI (b + c) = nI b + nI c by simp [nI], Int32.sub_sub]
theorem sub_0 (a : Nat) : nI a = nI a - nI 0 := by
  rw [nI_0, Int32.sub_zero]
