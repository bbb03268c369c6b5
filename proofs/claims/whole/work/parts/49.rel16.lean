/-! CARE and PROXY, who could serve whom -/
def sfP (p : pP) (T : pN) (lk s : Nat) : Bool := decide (lk ≤ cntN p T s 0 0 (T 24))
def sfN (p : pP) (H T : pN) (lk : Nat) : Option Nat := fstN (sfP p T lk) (H 0 + 1) (H 0)
theorem sf_some {p : pP} {H T : pN} {lk s : Nat} (h : sfN p H T lk = some s) : s ≤ H 0 := by
  have := (fst_some (by omega) h).1
  omega
def svC (H T : pN) (a : Nat) : Nat := if 0 < H (8 + a) then obS T a (brN (H (8 + a)) (H (24 + a))) (H 1) else 0
def pxO (p : pP) (H T : pN) (a : Nat) : Option Nat := if 0 < lackN H T a then sfN p H T (lackN H T a) else none
def svP (p : pP) (H T : pN) (a : Nat) : Nat := match pxO p H T a with
  | none => 0
  | some s => obS T a s (H 1)
def prP (p : pP) (H T : pN) (a : Nat) : Nat := match pxO p H T a with
  | none => 0
  | some s => s
theorem px_some {p : pP} {H T : pN} {a s : Nat} (h : pxO p H T a = some s) : s ≤ H 0 := by
  unfold pxO at h
  split at h
  · exact sf_some h
  · simp at h
theorem svC_lt {H T : pN} (h8 : H 1 ≤ 8) (a : Nat) : svC H T a < 256 := by
  unfold svC
  split
  · exact ob_lt _ h8
  · decide
theorem svP_lt {p : pP} {H T : pN} (h8 : H 1 ≤ 8) (a : Nat) : svP p H T a < 256 := by
  unfold svP
  split
  · decide
  · exact ob_lt _ h8
theorem prP_le {p : pP} {H T : pN} (h : H 0 ≤ 20) (a : Nat) : prP p H T a ≤ 20 := by
  unfold prP
  split
  · omega
  · rename_i s e
    have := px_some e
    omega
theorem rP_C {H T : pN} (h8 : H 1 ≤ 8) : rP (H 1) (svC H T) (fun _ => 0) := ⟨h8, fun j _ => ⟨svC_lt h8 j, Nat.zero_le _⟩⟩
theorem rP_P {p : pP} {H T : pN} (hr : rH H) : rP (H 1) (svP p H T) (prP p H T) := ⟨hr.2.1, fun j _ => ⟨svP_lt hr.2.1 j, prP_le hr.1.2 j⟩⟩
theorem brN_mono {a b hv : Nat} (h : a ≤ b) : brN a hv ≤ brN b hv := Nat.mul_le_mul_right _ h
theorem carN_ge (H T : pN) (a b : Nat) {s : Nat} (hs : 1 ≤ s) : ∀ n, s ≤ n → (s ≤ carN H T a b n ↔ brN s (H (24 + b)) ≤ T a)
  | 0, h => by omega
  | n + 1, h => by
    simp only [carN]
    split
    · rename_i c
      exact ⟨fun _ => Nat.le_trans (brN_mono h) c, fun _ => h⟩
    · rename_i c
      by_cases e : s = n + 1
      · subst e
        have := carN_le H T a b n
        exact ⟨fun q => by omega, fun q => absurd q c⟩
      · exact carN_ge H T a b hs n (by omega)
theorem can_C {H T : pN} (h8 : H 1 ≤ 8) {a b : Nat} (hb : b < H 1) : canS (svC H T) a b = decide (0 < H (8 + a) ∧ b ≠ a ∧ brN (H (8 + a)) (H (24 + a)) ≤ T b) := by
  unfold canS svC
  congr 1
  apply propext
  split
  · rename_i c
    rw [ob_bit (by omega) _ h8]
    split
    · rename_i c2; exact ⟨fun _ => ⟨c, c2.2⟩, fun _ => rfl⟩
    · rename_i c2; exact ⟨fun q => by omega, fun q => absurd ⟨hb, q.2⟩ c2⟩
  · rename_i c
    rw [bit0]
    exact ⟨fun q => by omega, fun q => absurd q.1 c⟩
theorem can_P {p : pP} {H T : pN} (h8 : H 1 ≤ 8) {a b : Nat} (hb : b < H 1) : (∀ s, pxO p H T a = some s → (canS (svP p H T) a b = true ↔ (b ≠ a ∧ s ≤ T b))) ∧ (pxO p H T a = none → ¬ canS (svP p H T) a b = true) := by
  refine ⟨fun s e => ?_, fun e => ?_⟩
  · unfold canS svP
    rw [e]
    simp only [decide_eq_true_eq]
    rw [ob_bit (by omega) _ h8]
    split
    · rename_i c2; exact ⟨fun _ => c2.2, fun _ => rfl⟩
    · rename_i c2; exact ⟨fun q => by omega, fun q => absurd ⟨hb, q⟩ c2⟩
  · unfold canS svP
    rw [e]
    simp only [decide_eq_true_eq]
    rw [bit0]
    omega
/-- what the class's pairing may write, scratch of formulas too -/
def sQ (I I' : pHI) : Prop := ∀ c k, ¬ scF c k → ¬ (54 ≤ c ∧ c ≤ 58) → I' c k = I c k
theorem sQ.rf {I : pHI} : sQ I I := fun _ _ _ _ => rfl
theorem sQ.tr {I I1 I2 : pHI} (h1 : sQ I I1) (h2 : sQ I1 I2) : sQ I I2 := fun c k a b => (h2 c k a b).trans (h1 c k a b)
theorem sb.sQ {I I' : pHI} (h : sb I I') : sQ I I' := fun c k a _ => h c k a
theorem sP.sQ {I I' : pHI} (h : sP I I') : sQ I I' := fun c k _ b => h c k (by omega) (by omega)
theorem cP.sb {I I' : pHI} {n : Nat} {sv pr : Nat → Nat} (h : cP I n sv pr) (f : sb I I') : cP I' n sv pr := h.off (fun c k e => f c k (by simp only [scF]; omega))
theorem cH.sQ {o : Nat} {H : pN} {I I' : pHI} (ho : isH o) (h : cH o H I) (hb : sQ I I') : cH o H I' :=
  h.off (fun c k a b => hb c k (by rcases ho with rfl | rfl <;> (simp only [scF]; omega)) (by rcases ho with rfl | rfl <;> omega))
theorem cF.sQ {f : Nat} {p : pP} {I I' : pHI} (hf : isF f) (h : cF f p I) (hb : sQ I I') : cF f p I' := by
  obtain ⟨h1, h2, h3⟩ := h
  have n : ∀ c k, f ≤ c → c ≤ f + 2 → (c = f → k ≠ 4) → I' c k = I c k := fun c k a b d => hb c k (by rcases hf with rfl | rfl | rfl | rfl <;> (simp only [scF]; omega)) (by rcases hf with rfl | rfl | rfl | rfl <;> omega)
  refine ⟨h1, by rw [n f 2 (by omega) (by omega) (by omega)]; exact h2, fun i q hi => ?_⟩
  rw [n (f + 1) _ (by omega) (by omega) (by omega), n (f + 2) _ (by omega) (by omega) (by omega)]
  exact h3 i q hi
theorem cS.sQ {T : pN} {I I' : pHI} (h : cS 33 T I) (hb : sQ I I') : cS 33 T I' := by
  obtain ⟨h1, h2, h3, h4, h5⟩ := h
  have n : ∀ c k, 33 ≤ c → c ≤ 36 → I' c k = I c k := fun c k a b => hb c k (by simp only [scF]; omega) (by omega)
  exact ⟨by rw [n 33 _ (by omega) (by omega)]; exact h1, by rw [n 33 _ (by omega) (by omega)]; exact h2, by rw [n 33 _ (by omega) (by omega)]; exact h3, by rw [n 33 _ (by omega) (by omega)]; exact h4, fun j hj => by
    rw [n 34 _ (by omega) (by omega), n 35 _ (by omega) (by omega), n 36 _ (by omega) (by omega)]
    exact h5 j hj⟩
/-- rows half laid -/
def cPj (I : pHI) (n : Nat) (sv pr : Nat → Nat) (j : Nat) : Prop := I 54 0 = nI n ∧ ∀ i, i < n → I 55 i = nI (if i < j then sv i else 0) ∧ I 56 i = nI (if i < j then pr i else 0)
theorem cPj.sb {I I' : pHI} {n j : Nat} {sv pr : Nat → Nat} (h : cPj I n sv pr j) (f : sb I I') : cPj I' n sv pr j := ⟨by rw [f 54 0 (by simp [scF])]; exact h.1, fun i hi => by rw [f 55 i (by simp [scF]), f 56 i (by simp [scF])]; exact h.2 i hi⟩
theorem cPj.all {I : pHI} {n : Nat} {sv pr : Nat → Nat} (h : cPj I n sv pr n) : cP I n sv pr := ⟨h.1, fun i hi => by have := h.2 i hi; rw [if_pos hi, if_pos hi] at this; exact this⟩
theorem cPj.put {I : pHI} {n j a b : Nat} {sv pr : Nat → Nat} (h : cPj I n sv pr j) (e1 : sv j = a) (e2 : pr j = b) : cPj (pu (pu I 55 j (nI a)) 56 j (nI b)) n sv pr (j + 1) := by
  refine ⟨by rw [pu_ne _ _ _ (by decide), pu_ne _ _ _ (by decide)]; exact h.1, fun i hi => ?_⟩
  have h2 := h.2 i hi
  have k1 : pu (pu I 55 j (nI a)) 56 j (nI b) 55 i = if i = j then nI a else I 55 i := by rw [pu_ne _ _ _ (by decide), pu_eq]
  have k2 : pu (pu I 55 j (nI a)) 56 j (nI b) 56 i = if i = j then nI b else I 56 i := by rw [pu_eq, pu_ne _ _ _ (by decide)]
  rw [k1, k2]
  by_cases e : i = j
  · subst e
    rw [if_pos rfl, if_pos rfl, if_pos (Nat.lt_succ_self i), if_pos (Nat.lt_succ_self i), e1, e2]
    exact ⟨rfl, rfl⟩
  · rw [if_neg e, if_neg e]
    by_cases c : i < j
    · rw [if_pos c, if_pos c] at h2; rw [if_pos (Nat.lt_succ_of_lt c), if_pos (Nat.lt_succ_of_lt c)]; exact h2
    · have c2 : ¬ i < j + 1 := by omega
      rw [if_neg c, if_neg c] at h2; rw [if_neg c2, if_neg c2]; exact h2
theorem cPj.skip {I : pHI} {n j : Nat} {sv pr : Nat → Nat} (h : cPj I n sv pr j) (e1 : sv j = 0) (e2 : pr j = 0) : cPj I n sv pr (j + 1) := by
  refine ⟨h.1, fun i hi => ?_⟩
  have h2 := h.2 i hi
  by_cases e : i = j
  · subst e
    rw [if_neg (by omega), if_neg (by omega)] at h2
    rw [if_pos (by omega), if_pos (by omega), e1, e2]
    exact h2
  · by_cases c : i < j
    · rw [if_pos c, if_pos c] at h2; rw [if_pos (by omega), if_pos (by omega)]; exact h2
    · rw [if_neg c, if_neg c] at h2; rw [if_neg (by omega), if_neg (by omega)]; exact h2
theorem oI_nb {n b : Nat} {C : Nat → Nat → Bool} {pr : Nat → Nat} {i : Nat} (h8 : n ≤ 8) (h : chN C pr n i = some b) : b < 8 := by
  have := (ch_some h).1
  omega
