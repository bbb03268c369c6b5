section HELP
variable {l : Launch} {X : pX} {md : pMd} {d : Nat} {K1 : List pS} {pc : Nat} {lc lc' : pLc} {st st' : List Value} {K : List pS} {I I' : pHI} {J J' : pHJ} {R R' : pHR} {Q : pQ}
theorem pE_cg (h : pE l X md d K1 pc lc st K I J R Q) (hl : lc' = lc) (hs : st' = st) (hI : I' = I) (hJ : J' = J) (hR : R' = R) : pE l X md d K1 pc lc' st' K I' J' R' Q := by
  subst hl hs hI hJ hR
  exact h
theorem cgQ {a b : Int32} (h : a = b) (hq : Q (some (.int b)) I J R) : Q (some (.int a)) I J R := by rw [h]; exact hq
theorem cgI (h : I' = I) {rv : Option Value} (hq : Q rv I J R) : Q rv I' J R := by rw [h]; exact hq
/-- indexes that are numbers -/
theorem pE_ialoadN {o n j : Nat} (hd : decode md.2.1 pc = .ok (.iaload, 1)) (hs : K[o]? = some (.inr (0, n))) (hj : j < n) (hn : n < 2 ^ 31) (kk : pE l X md d K1 (pc + 1) lc (.int (I o j) :: st) K I J R Q) : pE l X md d K1 pc lc (.int (nI j) :: .ref o :: st) K I J R Q :=
  pE_iaload hd hs (vp_in_nI hj hn) (by rw [nI_clamp (by omega)]; exact kk)
theorem pE_baloadN {o n j : Nat} (hd : decode md.2.1 pc = .ok (.baload, 1)) (hs : K[o]? = some (.inr (2, n))) (hj : j < n) (hn : n < 2 ^ 31) (kk : pE l X md d K1 (pc + 1) lc (.int (I o j) :: st) K I J R Q) : pE l X md d K1 pc lc (.int (nI j) :: .ref o :: st) K I J R Q :=
  pE_baload hd hs (vp_in_nI hj hn) (by rw [nI_clamp (by omega)]; exact kk)
theorem pE_zaloadN {o n j : Nat} (hd : decode md.2.1 pc = .ok (.baload, 1)) (hs : K[o]? = some (.inr (3, n))) (hj : j < n) (hn : n < 2 ^ 31) (kk : pE l X md d K1 (pc + 1) lc (.int (I o j) :: st) K I J R Q) : pE l X md d K1 pc lc (.int (nI j) :: .ref o :: st) K I J R Q :=
  pE_zaload hd hs (vp_in_nI hj hn) (by rw [nI_clamp (by omega)]; exact kk)
theorem pE_laloadN {o n j : Nat} (hd : decode md.2.1 pc = .ok (.laload, 1)) (hs : K[o]? = some (.inr (1, n))) (hj : j < n) (hn : n < 2 ^ 31) (kk : pE l X md d K1 (pc + 1) lc (.long (J o j) :: st) K I J R Q) : pE l X md d K1 pc lc (.int (nI j) :: .ref o :: st) K I J R Q :=
  pE_laload hd hs (vp_in_nI hj hn) (by rw [nI_clamp (by omega)]; exact kk)
theorem pE_iastoreN {o n j : Nat} {x : Int32} (hd : decode md.2.1 pc = .ok (.iastore, 1)) (hs : K[o]? = some (.inr (0, n))) (hj : j < n) (hn : n < 2 ^ 31) (kk : pE l X md d K1 (pc + 1) lc st K (pu I o j x) J R Q) : pE l X md d K1 pc lc (.int x :: .int (nI j) :: .ref o :: st) K I J R Q :=
  pE_iastore hd hs (vp_in_nI hj hn) (by rw [nI_clamp (by omega)]; exact kk)
theorem pE_bastoreN {o n j : Nat} {x : Int32} (hd : decode md.2.1 pc = .ok (.bastore, 1)) (hs : K[o]? = some (.inr (2, n))) (hj : j < n) (hn : n < 2 ^ 31) (kk : pE l X md d K1 (pc + 1) lc st K (pu I o j (vp_nar .byte x)) J R Q) : pE l X md d K1 pc lc (.int x :: .int (nI j) :: .ref o :: st) K I J R Q :=
  pE_bastore hd hs (vp_in_nI hj hn) (by rw [nI_clamp (by omega)]; exact kk)
theorem vp_nar_z {x : Int32} (hx : x = 0 ∨ x = 1) : vp_nar .boolean x = x := by rcases hx with rfl | rfl <;> rfl
theorem pE_zastoreN {o n j : Nat} {x : Int32} (hd : decode md.2.1 pc = .ok (.bastore, 1)) (hs : K[o]? = some (.inr (3, n))) (hx : x = 0 ∨ x = 1) (hj : j < n) (hn : n < 2 ^ 31) (kk : pE l X md d K1 (pc + 1) lc st K (pu I o j x) J R Q) : pE l X md d K1 pc lc (.int x :: .int (nI j) :: .ref o :: st) K I J R Q :=
  pE_zastore hd hs (vp_in_nI hj hn) (by rw [nI_clamp (by omega), vp_nar_z hx]; exact kk)
theorem pE_lastoreN {o n j : Nat} {x : Int64} (hd : decode md.2.1 pc = .ok (.lastore, 1)) (hs : K[o]? = some (.inr (1, n))) (hj : j < n) (hn : n < 2 ^ 31) (kk : pE l X md d K1 (pc + 1) lc st K I (pu J o j x) R Q) : pE l X md d K1 pc lc (.long x :: .int (nI j) :: .ref o :: st) K I J R Q :=
  pE_lastore hd hs (vp_in_nI hj hn) (by rw [nI_clamp (by omega)]; exact kk)
theorem nI_mul (a b : Nat) : nI a * nI b = nI (a * b) := by simp [nI]
theorem pE_iaddN {a b : Nat} (hd : decode md.2.1 pc = .ok (.iadd, 1)) (k : pE l X md d K1 (pc + 1) lc (.int (nI (a + b)) :: st) K I J R Q) : pE l X md d K1 pc lc (.int (nI b) :: .int (nI a) :: st) K I J R Q :=
  pE_iadd hd (by rw [nI_add]; exact k)
theorem pE_imulN {a b : Nat} (hd : decode md.2.1 pc = .ok (.imul, 1)) (k : pE l X md d K1 (pc + 1) lc (.int (nI (a * b)) :: st) K I J R Q) : pE l X md d K1 pc lc (.int (nI b) :: .int (nI a) :: st) K I J R Q :=
  pE_imul hd (by rw [nI_mul]; exact k)
theorem nI_subN {a b : Nat} (h : b ≤ a) : nI a - nI b = nI (a - b) := by
  obtain ⟨c, rfl⟩ : ∃ c, a = b + c := ⟨a - b, by omega⟩
  rw [show b + c - b = c by omega, ← nI_add]
  rw [Int32.add_comm, Int32.add_sub_cancel]
theorem pE_isubN {a b : Nat} (hd : decode md.2.1 pc = .ok (.isub, 1)) (h : b ≤ a) (k : pE l X md d K1 (pc + 1) lc (.int (nI (a - b)) :: st) K I J R Q) : pE l X md d K1 pc lc (.int (nI b) :: .int (nI a) :: st) K I J R Q :=
  pE_isub hd (by rw [nI_subN h]; exact k)
theorem pE_iincN {i a : Nat} {n : Int} {c0 : Nat} (hd : decode md.2.1 pc = .ok (.iinc i n, 3)) (hx : lc[i]? = some (some (.int (nI a)))) (hv : Int32.ofInt n = nI c0) (hp : pnl lc i = true) {lc' : pLc} (hl0 : lc.set i (some (.int (nI (a + c0)))) = lc') (k : pE l X md d K1 (pc + 3) lc' st K I J R Q) : pE l X md d K1 pc lc st K I J R Q :=
  pE_iinc hd hx hv hp (by rw [nI_add]; exact hl0) k
/-- a number down by one, in a loop that goes down: from j + 1 to j -/
theorem nI_dec (a : Nat) : nI (a + 1) + (-1) = nI a := by
  rw [← nI_add, Int32.add_assoc, show nI 1 + -1 = 0 from rfl, Int32.add_zero]
theorem nI_m1 : nI 0 + (-1) = -1 := rfl
theorem nq_le {a b : Nat} (ha : a < 2 ^ 31) (hb : b < 2 ^ 31) (h : nI a ≤ nI b) : a ≤ b := (nI_leI ha hb).mp h
theorem nq_nle {a b : Nat} (ha : a < 2 ^ 31) (hb : b < 2 ^ 31) (h : ¬ nI a ≤ nI b) : b < a := Nat.not_le.mp (fun q => h ((nI_leI ha hb).mpr q))
theorem nq_lt {a b : Nat} (ha : a < 2 ^ 31) (hb : b < 2 ^ 31) (h : nI a < nI b) : a < b := (nI_ltI ha hb).mp h
theorem nq_nlt {a b : Nat} (ha : a < 2 ^ 31) (hb : b < 2 ^ 31) (h : ¬ nI a < nI b) : b ≤ a := Nat.not_lt.mp (fun q => h ((nI_ltI ha hb).mpr q))
theorem nq_eq {a b : Nat} (ha : a < 2 ^ 31) (hb : b < 2 ^ 31) (h : nI a = nI b) : a = b := (nI_eq ha hb).mp h
theorem nq_ne {a b : Nat} (ha : a < 2 ^ 31) (hb : b < 2 ^ 31) (h : ¬ nI a = nI b) : a ≠ b := fun q => h ((nI_eq ha hb).mpr q)
theorem nq_eq0 {a : Nat} (ha : a < 2 ^ 31) (h : nI a = 0) : a = 0 := nq_eq ha (by omega) (h.trans nI_0.symm)
theorem nq_ne0 {a : Nat} (ha : a < 2 ^ 31) (h : ¬ nI a = 0) : 0 < a := Nat.pos_of_ne_zero (fun q => h (by rw [q]; exact nI_0))
theorem nq_le0 {a : Nat} (ha : a < 2 ^ 31) (h : nI a ≤ 0) : a = 0 := by
  rw [← nI_0] at h
  have := nq_le ha (by omega) h
  omega
theorem nq_nle0 {a : Nat} (ha : a < 2 ^ 31) (h : ¬ nI a ≤ 0) : 0 < a := by
  rw [← nI_0] at h
  exact nq_nle ha (by omega) h
theorem nq_gt0 {a : Nat} (ha : a < 2 ^ 31) (h : 0 < nI a) : 0 < a := by
  rw [← nI_0] at h
  exact nq_lt (by omega) ha h
theorem nq_ngt0 {a : Nat} (ha : a < 2 ^ 31) (h : ¬ 0 < nI a) : a = 0 := by
  rw [← nI_0] at h
  have := nq_nlt (by omega) ha h
  omega
end HELP
theorem pz_id {α : Type} (f : Nat → Nat → α) (c : Nat) : pz f c (f c) = f := by
  funext i
  by_cases h : i = c
  · subst h; rw [pz_eq]
  · rw [pz_ne _ _ h]
theorem pu_pz {α : Type} (f : Nat → Nat → α) (c k : Nat) (x : α) (g : Nat → α) : pu (pz f c g) c k x = pz f c (fun q => if q = k then x else g q) := by
  funext i
  by_cases h : i = c
  · subst h; rw [pu_eq, pz_eq, pz_eq]
  · rw [pu_ne _ _ _ h, pz_ne _ _ h, pz_ne _ _ h]
theorem pu_as_pz {α : Type} (f : Nat → Nat → α) (c k : Nat) (x : α) : pu f c k x = pz f c (fun q => if q = k then x else f c q) := by
  funext i
  by_cases h : i = c
  · subst h; rw [pu_eq, pz_eq]
  · rw [pu_ne _ _ _ h, pz_ne _ _ h]
theorem lp_pz {α : Type} {f : Nat → Nat → α} {c k : Nat} {x : α} {g g' : Nat → α} (h : ∀ q, (if q = k then x else g q) = g' q) : pu (pz f c g) c k x = pz f c g' := by
  rw [pu_pz]
  congr 1
  funext q
  exact h q
/-- a loop that fills a row from its front -/
theorem lp_fill {α : Type} {f : Nat → Nat → α} {c j : Nat} {x : α} {a b : Nat → α} (hx : x = a j) : pu (pz f c (fun q => if q < j then a q else b q)) c j x = pz f c (fun q => if q < j + 1 then a q else b q) := by
  refine lp_pz (fun q => ?_)
  by_cases h1 : q = j
  · subst h1
    rw [if_pos rfl, if_pos (Nat.lt_succ_self _), hx]
  · rw [if_neg h1]
    by_cases h2 : q < j
    · rw [if_pos h2, if_pos (by omega)]
    · rw [if_neg h2, if_neg (by omega)]
theorem lp_fill0 {α : Type} (f : Nat → Nat → α) (c : Nat) (a : Nat → α) : f = pz f c (fun q => if q < 0 then a q else f c q) := by
  have h : (fun q => if q < 0 then a q else f c q) = f c := by
    funext q
    exact if_neg (Nat.not_lt_zero _)
  rw [h, pz_id]
theorem nI_1' : nI 1 = 1 := by decide +kernel
theorem nI_1n0 : ¬ nI 1 = 0 := by decide +kernel
section HELP2
variable {l : Launch} {X : pX} {md : pMd} {d : Nat} {K1 : List pS} {pc : Nat} {lc : pLc} {st : List Value} {K : List pS} {I : pHI} {J : pHJ} {R : pHR} {Q : pQ} {x : Int32} {off : Int} {tgt : Nat}
theorem pE_if_eq_t (hd : decode md.2.1 pc = .ok (.ifCond .eq off, 3)) (ht : (pc : Int) + off = (tgt : Int)) (hx : x = 0) (k : pE l X md d K1 tgt lc st K I J R Q) : pE l X md d K1 pc lc (.int x :: st) K I J R Q := pE_if_eq hd ht (fun _ => k) (fun h => absurd hx h)
theorem pE_if_eq_f (hd : decode md.2.1 pc = .ok (.ifCond .eq off, 3)) (ht : (pc : Int) + off = (tgt : Int)) (hx : ¬ x = 0) (k : pE l X md d K1 (pc + 3) lc st K I J R Q) : pE l X md d K1 pc lc (.int x :: st) K I J R Q := pE_if_eq hd ht (fun h => absurd h hx) (fun _ => k)
theorem pE_if_ne_t (hd : decode md.2.1 pc = .ok (.ifCond .ne off, 3)) (ht : (pc : Int) + off = (tgt : Int)) (hx : ¬ x = 0) (k : pE l X md d K1 tgt lc st K I J R Q) : pE l X md d K1 pc lc (.int x :: st) K I J R Q := pE_if_ne hd ht (fun _ => k) (fun h => absurd h hx)
theorem pE_if_ne_f (hd : decode md.2.1 pc = .ok (.ifCond .ne off, 3)) (ht : (pc : Int) + off = (tgt : Int)) (hx : x = 0) (k : pE l X md d K1 (pc + 3) lc st K I J R Q) : pE l X md d K1 pc lc (.int x :: st) K I J R Q := pE_if_ne hd ht (fun h => absurd hx h) (fun _ => k)
end HELP2
theorem nI_max (a b : Nat) (ha : a < 2 ^ 31) (hb : b < 2 ^ 31) : (if nI a < nI b then nI b else nI a) = nI (max a b) := by
  by_cases h : a < b
  · rw [if_pos (nI_lt h hb), Nat.max_eq_right (Nat.le_of_lt h)]
  · rw [if_neg (nI_nlt (Nat.not_lt.mp h) ha), Nat.max_eq_left (Nat.not_lt.mp h)]
theorem nI_min (a b : Nat) (ha : a < 2 ^ 31) (hb : b < 2 ^ 31) : (if nI b < nI a then nI b else nI a) = nI (min a b) := by
  by_cases h : b < a
  · rw [if_pos (nI_lt h ha), Nat.min_eq_right (Nat.le_of_lt h)]
  · rw [if_neg (nI_nlt (Nat.not_lt.mp h) hb), Nat.min_eq_left (Nat.not_lt.mp h)]
/-- the difference of two numbers, 0 at least -/
theorem nI_tsub (a b : Nat) (ha : a < 2 ^ 30) (hb : b < 2 ^ 30) : (if nI 0 < nI a - nI b then nI a - nI b else nI 0) = nI (a - b) := by
  by_cases h : b ≤ a
  · rw [nI_subN h]
    have := nI_max 0 (a - b) (by omega) (by omega)
    rw [Nat.max_eq_right (Nat.zero_le _)] at this
    exact this
  · rw [if_neg, show a - b = 0 by omega]
    rw [nI_0, Int32.lt_iff_toInt_lt, Int32.toInt_sub, nI_toInt (by omega), nI_toInt (by omega), Int32.toInt_zero, Int.bmod_def]
    omega
/-- a number that came from outside -/
theorem nI_or (x : Int32) : (x < 0) ∨ ∃ j, j < 2 ^ 31 ∧ x = nI j := by
  by_cases h : x < 0
  · exact Or.inl h
  · exact Or.inr (nI_of h)
theorem nI_div {a b : Nat} (ha : a < 2 ^ 31) (hb : b < 2 ^ 31) : nI a / nI b = nI (a / b) := by
  have hq : a / b ≤ a := Nat.div_le_self _ _
  apply Int32.toInt_inj.mp
  rw [Int32.toInt_div, nI_toInt ha, nI_toInt hb, nI_toInt (by omega), ← Int.ofNat_tdiv, Int.bmod_def]
  generalize a / b = q at hq
  omega
theorem nI_rem {a b : Nat} (ha : a < 2 ^ 31) (hb : b < 2 ^ 31) : nI a - nI a / nI b * nI b = nI (a % b) := by
  rw [nI_div ha hb, nI_mul, nI_subN (Nat.div_mul_le_self _ _), Nat.mod_eq_sub_div_mul]
section HELP3
variable {l : Launch} {X : pX} {md : pMd} {d : Nat} {K1 : List pS} {pc : Nat} {lc : pLc} {st : List Value} {K : List pS} {I : pHI} {J : pHJ} {R : pHR} {Q : pQ}
theorem pE_idivN {a b : Nat} (hd : decode md.2.1 pc = .ok (.idiv, 1)) (ha : a < 2 ^ 31) (hb : b < 2 ^ 31) (h0 : 0 < b) (k : pE l X md d K1 (pc + 1) lc (.int (nI (a / b)) :: st) K I J R Q) : pE l X md d K1 pc lc (.int (nI b) :: .int (nI a) :: st) K I J R Q :=
  pE_idiv hd (nI_ne0 h0 hb) (by rw [nI_div ha hb]; exact k)
theorem pE_iremN {a b : Nat} (hd : decode md.2.1 pc = .ok (.irem, 1)) (ha : a < 2 ^ 31) (hb : b < 2 ^ 31) (h0 : 0 < b) (k : pE l X md d K1 (pc + 1) lc (.int (nI (a % b)) :: st) K I J R Q) : pE l X md d K1 pc lc (.int (nI b) :: .int (nI a) :: st) K I J R Q :=
  pE_irem hd (nI_ne0 h0 hb) (by rw [nI_rem ha hb]; exact k)
end HELP3
theorem pE_alenN {l : Launch} {X : pX} {md : pMd} {d : Nat} {K1 : List pS} {pc : Nat} {lc : pLc} {st : List Value} {K : List pS} {I : pHI} {J : pHJ} {R : pHR} {Q : pQ} {o t n : Nat} (hd : decode md.2.1 pc = .ok (.arraylength, 1)) (hs : K[o]? = some (.inr (t, n))) (ht : t < 4) (kk : pE l X md d K1 (pc + 1) lc (.int (nI n) :: st) K I J R Q) : pE l X md d K1 pc lc (.ref o :: st) K I J R Q := pE_alen hd hs ht rfl kk
