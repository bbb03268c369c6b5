section PE2
variable {l : Launch} {X : pX} {md : pMd} {d : Nat} {K1 : List pS} {pc : Nat} {lc : pLc} {st : List Value} {K : List pS} {I : pHI} {J : pHJ} {R : pHR} {Q : pQ}
theorem pE_putI {index ci k o : Nat} {x : Int32} {ty0 : Nat → FieldType} (hd : decode md.2.1 pc = .ok (.putfield index, 3)) (hf : pFl md.1 index ci k) (ht : pFt ci ty0) (hfi : pFfin ci k false) (hty : ty0 k = .int) (hk : (pk ci)[k]? = some 0) (hs : K[o]? = some (.inl ci)) (kk : pE l X md d K1 (pc + 3) lc st K (pu I o k x) J R Q) : pE l X md d K1 pc lc (.int x :: .ref o :: st) K I J R Q :=
  pE_putV hd hf ht hfi (fun h => by cases h) hk hs (v := .int x) (fun ad => by rw [hty]; rfl) (fun ad => by rw [hty]; rfl) (fun cA ad => pW_setI hs hk (Or.inl rfl)) kk
theorem pE_putB {index ci k o : Nat} {x : Int32} {ty0 : Nat → FieldType} (hd : decode md.2.1 pc = .ok (.putfield index, 3)) (hf : pFl md.1 index ci k) (ht : pFt ci ty0) (hfi : pFfin ci k false) (hty : ty0 k = .boolean) (hk : (pk ci)[k]? = some 3) (hs : K[o]? = some (.inl ci)) (hx : x = 0 ∨ x = 1) (kk : pE l X md d K1 (pc + 3) lc st K (pu I o k x) J R Q) : pE l X md d K1 pc lc (.int x :: .ref o :: st) K I J R Q :=
  pE_putV hd hf ht hfi (fun h => by cases h) hk hs (v := .int x) (fun ad => by rw [hty]; rcases hx with rfl | rfl <;> rfl) (fun ad => by rw [hty]; rcases hx with rfl | rfl <;> rfl) (fun cA ad => pW_setI hs hk (Or.inr rfl)) kk
theorem pE_putJ {index ci k o : Nat} {x : Int64} {ty0 : Nat → FieldType} (hd : decode md.2.1 pc = .ok (.putfield index, 3)) (hf : pFl md.1 index ci k) (ht : pFt ci ty0) (hfi : pFfin ci k false) (hty : ty0 k = .long) (hk : (pk ci)[k]? = some 1) (hs : K[o]? = some (.inl ci)) (kk : pE l X md d K1 (pc + 3) lc st K I (pu J o k x) R Q) : pE l X md d K1 pc lc (.long x :: .ref o :: st) K I J R Q :=
  pE_putV hd hf ht hfi (fun h => by cases h) hk hs (v := .long x) (fun ad => by rw [hty]; rfl) (fun ad => by rw [hty]; rfl) (fun cA ad => pW_setJ hs hk) kk
/-- a reference's type -/
def pRt (t : FieldType) : Prop := ∀ a : Nat, narrow t (.ref a) = .ref a ∧ fits t (.ref a) = true
theorem pRt_o (n : String) : pRt (.object n) := fun a => ⟨rfl, rfl⟩
theorem pRt_a (t : FieldType) : pRt (.array t) := fun a => ⟨rfl, rfl⟩
theorem pE_putR {index ci k o x : Nat} {ty0 : Nat → FieldType} (hd : decode md.2.1 pc = .ok (.putfield index, 3)) (hf : pFl md.1 index ci k) (ht : pFt ci ty0) (hfi : pFfin ci k false) (hty : pRt (ty0 k)) (hk : (pk ci)[k]? = some 2) (hs : K[o]? = some (.inl ci)) (kk : pE l X md d K1 (pc + 3) lc st K I J (pu R o k (some x)) Q) : pE l X md d K1 pc lc (.ref x :: .ref o :: st) K I J R Q :=
  pE_putV hd hf ht hfi (fun h => by cases h) hk hs (v := .ref x) (fun ad => (hty _).1) (fun ad => (hty _).2) (fun cA ad => pW_setR hs hk) kk
theorem pE_putRF {index ci k o x : Nat} {ty0 : Nat → FieldType} (hd : decode md.2.1 pc = .ok (.putfield index, 3)) (hf : pFl md.1 index ci k) (ht : pFt ci ty0) (hfi : pFfin ci k true) (hini : md.2.2.2.2 = true ∧ ∃ r : vw_C, vwCl[ci]? = some r ∧ (r.2.1 k).1 = md.1 ∧ Cond.fieldLink md.1 index (r.2.1 k).1 (r.2.1 k).2.1 (r.2.1 k).2.2.1 ∈ pTb) (hty : pRt (ty0 k)) (hk : (pk ci)[k]? = some 2) (hs : K[o]? = some (.inl ci)) (kk : pE l X md d K1 (pc + 3) lc st K I J (pu R o k (some x)) Q) : pE l X md d K1 pc lc (.ref x :: .ref o :: st) K I J R Q :=
  pE_putV hd hf ht hfi (fun _ => hini) hk hs (v := .ref x) (fun ad => (hty _).1) (fun ad => (hty _).2) (fun cA ad => pW_setR hs hk) kk
theorem pE_iastore {o n : Nat} {i : Int32} {x : Int32} (hd : decode md.2.1 pc = .ok (.iastore, 1)) (hs : K[o]? = some (.inr (0, n))) (hin : vp_in i n) (kk : pE l X md d K1 (pc + 1) lc st K (pu I o i.toNatClampNeg (x)) J R Q) : pE l X md d K1 pc lc (.int x :: .int i :: .ref o :: st) K I J R Q := by
  intro dC dI ad base cA p e Rm s m args below meth c n0 z0 Z hC hr H locs cells slots ls hW h1 h2 hL
  refine va_iast hC.1.1 hC.1.2.1 hC.2.1.2.1 hW.1 hW.2.1 hW.2.2.1 o 0 (pW_get (cA := cA) (ad := ad) (I := I) (J := J) (R := R) hs) rfl hin hd (fun H1 locs1 a1 a2 a3 => ?_)
  have hse := pW_setA (cA := cA) (ad := ad) (I := I) (J := J) (R := R) (j := i.toNatClampNeg) (x := x) hs (by decide)
  have a1' : va_P (dC, dI) vwCl ((pW cA ad K I J R).set o (ad o, .inl (cA 0, n, .inl (upd (I o) i.toNatClampNeg (x))))) H1 := a1
  have a2' : va_D (pG base) ((pW cA ad K I J R).set o (ad o, .inl (cA 0, n, .inl (upd (I o) i.toNatClampNeg (x))))) := a2
  rw [hse] at a1' a2'
  exact kk dC dI ad base cA p e Rm s m args below meth c n0 z0 Z hC hr H1 locs1 cells slots ls ⟨a1', a2', a3, hW.2.2.2⟩ h1 h2 hL
theorem pE_bastore {o n : Nat} {i : Int32} {x : Int32} (hd : decode md.2.1 pc = .ok (.bastore, 1)) (hs : K[o]? = some (.inr (2, n))) (hin : vp_in i n) (kk : pE l X md d K1 (pc + 1) lc st K (pu I o i.toNatClampNeg (vp_nar .byte x)) J R Q) : pE l X md d K1 pc lc (.int x :: .int i :: .ref o :: st) K I J R Q := by
  intro dC dI ad base cA p e Rm s m args below meth c n0 z0 Z hC hr H locs cells slots ls hW h1 h2 hL
  refine va_bast hC.1.1 hC.1.2.1 hC.2.1.2.1 hW.1 hW.2.1 hW.2.2.1 o 2 (pW_get (cA := cA) (ad := ad) (I := I) (J := J) (R := R) hs) rfl hin hd (fun H1 locs1 a1 a2 a3 => ?_)
  have hse := pW_setA (cA := cA) (ad := ad) (I := I) (J := J) (R := R) (j := i.toNatClampNeg) (x := vp_nar .byte x) hs (by decide)
  have a1' : va_P (dC, dI) vwCl ((pW cA ad K I J R).set o (ad o, .inl (cA 2, n, .inl (upd (I o) i.toNatClampNeg (vp_nar .byte x))))) H1 := a1
  have a2' : va_D (pG base) ((pW cA ad K I J R).set o (ad o, .inl (cA 2, n, .inl (upd (I o) i.toNatClampNeg (vp_nar .byte x))))) := a2
  rw [hse] at a1' a2'
  exact kk dC dI ad base cA p e Rm s m args below meth c n0 z0 Z hC hr H1 locs1 cells slots ls ⟨a1', a2', a3, hW.2.2.2⟩ h1 h2 hL
theorem pE_zastore {o n : Nat} {i : Int32} {x : Int32} (hd : decode md.2.1 pc = .ok (.bastore, 1)) (hs : K[o]? = some (.inr (3, n))) (hin : vp_in i n) (kk : pE l X md d K1 (pc + 1) lc st K (pu I o i.toNatClampNeg (vp_nar .boolean x)) J R Q) : pE l X md d K1 pc lc (.int x :: .int i :: .ref o :: st) K I J R Q := by
  intro dC dI ad base cA p e Rm s m args below meth c n0 z0 Z hC hr H locs cells slots ls hW h1 h2 hL
  refine va_zast hC.1.1 hC.1.2.1 hC.2.1.2.1 hW.1 hW.2.1 hW.2.2.1 o 3 (pW_get (cA := cA) (ad := ad) (I := I) (J := J) (R := R) hs) rfl hin hd (fun H1 locs1 a1 a2 a3 => ?_)
  have hse := pW_setA (cA := cA) (ad := ad) (I := I) (J := J) (R := R) (j := i.toNatClampNeg) (x := vp_nar .boolean x) hs (by decide)
  have a1' : va_P (dC, dI) vwCl ((pW cA ad K I J R).set o (ad o, .inl (cA 3, n, .inl (upd (I o) i.toNatClampNeg (vp_nar .boolean x))))) H1 := a1
  have a2' : va_D (pG base) ((pW cA ad K I J R).set o (ad o, .inl (cA 3, n, .inl (upd (I o) i.toNatClampNeg (vp_nar .boolean x))))) := a2
  rw [hse] at a1' a2'
  exact kk dC dI ad base cA p e Rm s m args below meth c n0 z0 Z hC hr H1 locs1 cells slots ls ⟨a1', a2', a3, hW.2.2.2⟩ h1 h2 hL
theorem pE_lastore {o n : Nat} {i : Int32} {x : Int64} (hd : decode md.2.1 pc = .ok (.lastore, 1)) (hs : K[o]? = some (.inr (1, n))) (hin : vp_in i n) (kk : pE l X md d K1 (pc + 1) lc st K I (pu J o i.toNatClampNeg x) R Q) : pE l X md d K1 pc lc (.long x :: .int i :: .ref o :: st) K I J R Q := by
  intro dC dI ad base cA p e Rm s m args below meth c n0 z0 Z hC hr H locs cells slots ls hW h1 h2 hL
  refine va_last hC.1.1 hC.1.2.1 hC.2.1.2.1 hW.1 hW.2.1 hW.2.2.1 o 1 (pW_get (cA := cA) (ad := ad) (I := I) (J := J) (R := R) hs) rfl hin hd (fun H1 locs1 a1 a2 a3 => ?_)
  have hse := pW_setL (cA := cA) (ad := ad) (I := I) (J := J) (R := R) (j := i.toNatClampNeg) (x := x) hs
  have a1' : va_P (dC, dI) vwCl ((pW cA ad K I J R).set o (ad o, .inl (cA 1, n, .inr (.inl (vp_updL (J o) i.toNatClampNeg x))))) H1 := a1
  have a2' : va_D (pG base) ((pW cA ad K I J R).set o (ad o, .inl (cA 1, n, .inr (.inl (vp_updL (J o) i.toNatClampNeg x))))) := a2
  rw [hse] at a1' a2'
  exact kk dC dI ad base cA p e Rm s m args below meth c n0 z0 Z hC hr H1 locs1 cells slots ls ⟨a1', a2', a3, hW.2.2.2⟩ h1 h2 hL
theorem pW_size {dC : Nat → ClassId} {dI : Nat → Nat → Nat} {ad : Nat → Nat} {base : Nat} {cA : Nat → ClassId} {p : Program} {e : Env} {Rm : Room} {s : State} {m : MethodId} {args : Array Value} {below : List Frame} {meth : Method} {c : Code} {n0 cells slots : Nat} {Z : State → Prop} {H : Heap} {locs : List Loc} {g : JFrame}
    (hb : s.heap.size = base + n0) (had : ∀ i, i < 1000000 → ad i = base + i) (hW : pWd dC dI ad base cA K I J R s H locs) (h1 : cells + n0 = K.length) (kk : H.size = base + K.length → W p l e Rm s m args below meth c H locs cells slots Z g) : W p l e Rm s m args below meth c H locs cells slots Z g := by
  intro T hT X
  have hu := X.heapSize
  rw [hT] at hu
  obtain ⟨hP, hD, hS, hk⟩ := hW
  have hlo : base + K.length ≤ H.size := by
    rcases Nat.eq_zero_or_pos K.length with h0 | h0
    · have := hS.1
      omega
    · have hx : K[K.length - 1]? = some (K[K.length - 1]'(by omega)) := List.getElem?_eq_getElem (by omega)
      have hlt := (hP _ _ (pW_get (cA := cA) (ad := ad) (I := I) (J := J) (R := R) hx)).lt
      have hlt' : ad (K.length - 1) < H.size := hlt
      rw [had _ (by omega)] at hlt'
      omega
  exact kk (by omega) T hT X
/-! a method's contract -/
def pPre (X : pX) (dC : Nat → ClassId) (dI : Nat → Nat → Nat) (ad : Nat → Nat) (base : Nat) (cA : Nat → ClassId) (as : List Value) (K : List pS) (I : pHI) (J : pHJ) (R : pHR) : Array Value → State → Prop := fun v U =>
  v = (as.map (trv ad)).toArray ∧ va_K (dC, dI) vwCl (pTy cA) U ∧ pSt X ad base U U.heap ∧ (∀ i, i < 1000000 → ad i = base + i) ∧ va_P (dC, dI) vwCl (pW cA ad K I J R) U.heap ∧ va_D (pG base) (pW cA ad K I J R) ∧ U.heap.size = base + K.length ∧ K.length ≤ 1000
def pPost (dC : Nat → ClassId) (dI : Nat → Nat → Nat) (ad : Nat → Nat) (base : Nat) (cA : Nat → ClassId) (K1 : List pS) (Q : pQ) : Array Value → State → Outcome → State → Prop := fun _ st oc t =>
  ∃ (rv : Option Value) (I' : pHI) (J' : pHJ) (R' : pHR), oc = .returned rv ∧ Q rv I' J' R' ∧ (rv = none ∨ (∃ x, rv = some (.int x)) ∨ ∃ x, rv = some (.long x)) ∧ va_P (dC, dI) vwCl (pW cA ad K1 I' J' R') t.heap ∧ va_D (pG base) (pW cA ad K1 I' J' R') ∧ va_F (pG base) st t
def pWs (y : MethodName) (md : pMd) : List Cond := .code y md.2.1 md.2.2.1 md.2.2.2.1 :: pTb
def pRm (d : Nat) (K K1 : List pS) : Room := { frames := d, cells := K1.length - K.length, slots := pSz K1 - pSz K, locals := 40 * d }
def pM (l : Launch) (X : pX) (y : MethodName) (md : pMd) (d : Nat) (as : List Value) (K K1 : List pS) (I : pHI) (J : pHJ) (R : pHR) (Q : pQ) : Prop :=
  ∀ (dC : Nat → ClassId) (dI : Nat → Nat → Nat) (ad : Nat → Nat) (base : Nat) (cA : Nat → ClassId), Met l y (pWs y md) (pRm d K K1) (pPre X dC dI ad base cA as K I J R) (pPost dC dI ad base cA K1 Q) (K1.length - K.length) (pSz K1 - pSz K) (pG base)
theorem pM_of {y : MethodName} {as : List Value} (hy : plainName y.cls = true) (hin : md.2.2.2.2 = true → y.name = "<init>") (hcl : y.cls = md.1) (hK : K.length ≤ K1.length ∧ pSz K ≤ pSz K1 ∧ K1.length ≤ 1000) (hn : (pAr as).length ≤ md.2.2.1) (h : pE l X md d K1 0 (pEn as md.2.2.1) [] K I J R Q) : pM l X y md d as K K1 I J R Q := by
  intro dC dI ad base cA
  refine Met.ofW (cc := md.2.1) (maxL := md.2.2.1) (ret := md.2.2.2.1) hy rfl ?_
  intro p e s m args below meth c s₁ B hml hv
  obtain ⟨rfl, hKn, hSt, had, hP, hD, hsz, hk⟩ := hv
  have hts := atoms_spec (ws := pWs y md) B.pre
  have hown : s.vm.findClass md.1 = some m.cls := by rw [← hcl]; exact findClass_of_methodNamed B.named
  have hnm : meth.name = y.name := (name_of_methodNamed B.named B.method).1
  have hlk := B.notSynchronized
  rw [lg_entry_eq]
  refine h dC dI ad base cA p e _ s m _ below meth c K.length (pSz K) _ ⟨⟨B.exec, B.bytes, hml, B.returns, hlk, hown, fun g => by rw [hnm]; exact hin g⟩, ⟨fun w hw => hts w (List.mem_cons_of_mem _ hw), hKn, hSt, hsz, had⟩, Nat.le_refl _, Nat.le_refl _, ?_, ?_⟩ ?_ s.heap [] 0 0 _ ⟨hP, hD, va_S.rf, hk⟩ (Nat.zero_add _) (Nat.zero_add _) (pLs_entry hn)
  · show K1.length ≤ K.length + (K1.length - K.length)
    omega
  · show pSz K1 ≤ pSz K + (pSz K1 - pSz K)
    omega
  · intro pc' ls' rv I' J' R' H' locs' cells' slots' hat hq hw hc1 hz1
    have ec : cells' = K1.length - K.length := by omega
    have ez : slots' = pSz K1 - pSz K := by omega
    subst ec
    subst ez
    have hf : ∀ q ∈ locs', pG base q.base := hw.2.2.1.2.2
    match rv, hat with
    | none, hat => exact W.vret B.exec B.bytes (B.returns.trans hat.2) (fun t ht hWm => ⟨none, I', J', R', rfl, hq, Or.inl rfl, by rw [ht]; exact hw.1, hw.2.1, hw.2.2.1.F ht⟩) hf hat.1
    | some (.int v), hat =>
      obtain ⟨hat1, ty, hty, hnr⟩ := hat
      exact W.zret B.exec B.bytes (B.returns.trans hty) hnr (fun t ht hWm => ⟨some (.int v), I', J', R', rfl, hq, Or.inr (Or.inl ⟨v, rfl⟩), by rw [ht]; exact hw.1, hw.2.1, hw.2.2.1.F ht⟩) hf hat1
    | some (.long v), hat => exact W.lret B.exec B.bytes (B.returns.trans hat.2) (fun t ht hWm => ⟨some (.long v), I', J', R', rfl, hq, Or.inr (Or.inr ⟨v, rfl⟩), by rw [ht]; exact hw.1, hw.2.1, hw.2.2.1.F ht⟩) hf hat.1
theorem pM.mono {y : MethodName} {as : List Value} {Q' : pQ} (h : pM l X y md d as K K1 I J R Q) (hQ : ∀ rv I' J' R', Q rv I' J' R' → Q' rv I' J' R') : pM l X y md d as K K1 I J R Q' := by
  intro dC dI ad base cA p e ha hc hk s m args below hf hfit hpre hP
  obtain ⟨n, o, a1, a2, a3, ⟨rv, I', J', R', b1, b2, b3⟩, a4⟩ := h dC dI ad base cA p e ha hc hk s m args below hf hfit hpre hP
  exact ⟨n, o, a1, a2, a3, ⟨rv, I', J', R', b1, hQ _ _ _ _ b2, b3⟩, a4⟩
/-! returns -/
theorem pE_iret {x : Int32} (hd : decode md.2.1 pc = .ok (.ireturn, 1)) (hret : md.2.2.2.1 = some .int) (hK : K = K1) (hq : Q (some (.int x)) I J R) : pE l X md d K1 pc lc [.int x] K I J R Q := by
  intro dC dI ad base cA p e Rm s m args below meth c n0 z0 Z hC hr H locs cells slots ls hW h1 h2 hL
  subst hK
  exact hr pc ls (some (.int x)) I J R H locs cells slots ⟨hd, .int, hret, rfl⟩ hq hW h1 h2
theorem pE_zret {x : Int32} (hd : decode md.2.1 pc = .ok (.ireturn, 1)) (hret : md.2.2.2.1 = some .boolean) (hx : x = 0 ∨ x = 1) (hK : K = K1) (hq : Q (some (.int x)) I J R) : pE l X md d K1 pc lc [.int x] K I J R Q := by
  intro dC dI ad base cA p e Rm s m args below meth c n0 z0 Z hC hr H locs cells slots ls hW h1 h2 hL
  subst hK
  exact hr pc ls (some (.int x)) I J R H locs cells slots ⟨hd, .boolean, hret, by rcases hx with rfl | rfl <;> rfl⟩ hq hW h1 h2
theorem pE_nret {x : Int32} {ty : FieldType} (hd : decode md.2.1 pc = .ok (.ireturn, 1)) (hret : md.2.2.2.1 = some ty) (hx : narrow ty (.int x) = .int x) (hK : K = K1) (hq : Q (some (.int x)) I J R) : pE l X md d K1 pc lc [.int x] K I J R Q := by
  intro dC dI ad base cA p e Rm s m args below meth c n0 z0 Z hC hr H locs cells slots ls hW h1 h2 hL
  subst hK
  exact hr pc ls (some (.int x)) I J R H locs cells slots ⟨hd, ty, hret, hx⟩ hq hW h1 h2
theorem pE_lret {x : Int64} (hd : decode md.2.1 pc = .ok (.lreturn, 1)) (hret : md.2.2.2.1 = some .long) (hK : K = K1) (hq : Q (some (.long x)) I J R) : pE l X md d K1 pc lc [.long x] K I J R Q := by
  intro dC dI ad base cA p e Rm s m args below meth c n0 z0 Z hC hr H locs cells slots ls hW h1 h2 hL
  subst hK
  exact hr pc ls (some (.long x)) I J R H locs cells slots ⟨hd, hret⟩ hq hW h1 h2
theorem pE_vret (hd : decode md.2.1 pc = .ok (.return_, 1)) (hret : md.2.2.2.1 = none) (hK : K = K1) (hq : Q none I J R) : pE l X md d K1 pc lc [] K I J R Q := by
  intro dC dI ad base cA p e Rm s m args below meth c n0 z0 Z hC hr H locs cells slots ls hW h1 h2 hL
  subst hK
  exact hr pc ls none I J R H locs cells slots ⟨hd, hret⟩ hq hW h1 h2
/-! calls -/
/-- a callee's words -/
def pCw (own : String) (index : Nat) (y : MethodName) (mc : pMd) (n : Nat) : Prop :=
  Cond.initialized y.cls ∈ pTb ∧ Cond.code y mc.2.1 mc.2.2.1 mc.2.2.2.1 ∈ pTb ∧ y.cls ≠ "java/lang/invoke/MethodHandle" ∧ y.cls ≠ "java/lang/invoke/VarHandle" ∧ (parseMethodDescriptor y.desc).map (fun d => d.parameters.length) = some n ∧ mc.2.2.1 ≤ 21
def pLk (own : String) (index : Nat) (y : MethodName) : Prop := Cond.methodLink own index y ∈ pTb ∨ ∃ host : String, Cond.methodLinkNest own index y host ∈ pNb
theorem pBlind {X : pX} {dC : Nat → ClassId} {dI : Nat → Nat → Nat} {ad : Nat → Nat} {base : Nat} {cA : Nat → ClassId} {as : List Value} : FrameBlind (pPre X dC dI ad base cA as K I J R) := by
  intro a U g mk ⟨q1, q2, q3, q4, q5, q6, q7, q8⟩
  exact ⟨q1, va_K.moved (u := U) (U := U.calling g mk a) (Vm.Alike.refl U.vm) q2, pSt.to q3 (State.WarmedH.refl U) (fun _ _ _ => rfl), q4, q5, q6, q7, q8⟩
theorem pPay {y : MethodName} {mc : pMd} {s : State} {args : Array Value} (hts : ∀ w ∈ pTb, w.before args s = true) (hc : Cond.code y mc.2.1 mc.2.2.1 mc.2.2.2.1 ∈ pTb) : ∀ w ∈ pWs y mc, ∀ (a' : Array Value) (U : State), s.WarmedH U.vm → w.before a' U = true := by
  intro w hw
  have hm : w ∈ pTb := by
    rcases List.mem_cons.mp hw with rfl | h
    · exact hc
    · exact h
  exact fun a' U hW => word_at hW (good_of_word (pTb_good hm)) (hts w hm)
/-- behind a call -/
theorem pBack {K' : List pS} {Q' : pQ} {dC : Nat → ClassId} {dI : Nat → Nat → Nat} {ad : Nat → Nat} {base : Nat} {cA : Nat → ClassId} {p : Program} {e : Env} {Rm : Room} {s : State} {m : MethodId} {args : Array Value} {below : List Frame} {meth : Method} {c : Code} {cells slots mc ms : Nat} {Z : State → Prop} {H : Heap} {locs : List Loc} {ls : Array Slot} {st0 rest : List Value} {a : Array Value}
    (hr : va_Run p l e Rm s m args below meth c H locs cells slots mc ms (F0 m pc ls st0) rest (pPost dC dI ad base cA K' Q' a) (pG base)) (hS : va_S (pG base) s.heap H locs)
    (kk : ∀ (rv : Option Value) (I' : pHI) (J' : pHJ) (R' : pHR) (H1 : Heap) (locs1 : List Loc), Q' rv I' J' R' → (rv = none ∨ (∃ x, rv = some (.int x)) ∨ ∃ x, rv = some (.long x)) → va_P (dC, dI) vwCl (pW cA ad K' I' J' R') H1 → va_D (pG base) (pW cA ad K' I' J' R') → va_S (pG base) s.heap H1 locs1 → W p l e Rm s m args below meth c H1 locs1 (cells + mc) (slots + ms) Z (F0 m (pc + 3) ls (rv.toList ++ rest))) : W p l e Rm s m args below meth c H locs cells slots Z (F0 m pc ls st0) := by
  intro T hT X
  obtain ⟨v, st₀, t, T', L, h0, X', hL, e1, e2, ⟨rv, I', J', R', b1, b2, b3, b4, b5, hz, hk⟩, st⟩ := hr T hT X
  cases b1
  rw [h0] at hz hk
  obtain ⟨t2, a1, c1⟩ := kk v I' J' R' T'.heap (locs ++ L) b2 b3 (by rw [e1]; exact b4) b5 ⟨Nat.le_trans hS.1 (by rw [e1]; exact hz), fun q g1 g2 => by rw [e1, hk q (Nat.lt_of_lt_of_le g1 hS.1) g2]; exact hS.2.1 q g1 g2, fun q hq => by
    rcases List.mem_append.mp hq with h | h
    · exact hS.2.2 q h
    · exact hL q h⟩ T' rfl X'
  exact ⟨t2, st t2 a1, c1⟩
/-- what goes on behind a call: the answer on the stack -/
def pNx (l : Launch) (X : pX) (md : pMd) (d : Nat) (K1 : List pS) (pc : Nat) (lc : pLc) (st : List Value) (K : List pS) (Q : pQ) : pQ := fun rv I' J' R' => match rv with
  | none => pE l X md d K1 pc lc st K I' J' R' Q
  | some v => pE l X md d K1 pc lc (v :: st) K I' J' R' Q
theorem pNx_at {rv : Option Value} {pc : Nat} {I' : pHI} {J' : pHJ} {R' : pHR} (h : pNx l X md d K1 pc lc st K Q rv I' J' R') : pE l X md d K1 pc lc (rv.toList ++ st) K I' J' R' Q := by
  cases rv <;> exact h
theorem pPcAt {as : List Value} {dC : Nat → ClassId} {dI : Nat → Nat → Nat} {ad : Nat → Nat} {base : Nat} {cA : Nat → ClassId} {s : State} {H : Heap} {locs : List Loc} (hK : va_K (dC, dI) vwCl (pTy cA) s) (hSt : pSt X ad base s s.heap) (had : ∀ i, i < 1000000 → ad i = base + i) (hW : pWd dC dI ad base cA K I J R s H locs) (hsz : H.size = base + K.length) (U : State) (hU : U.heap = H) (hWm : s.WarmedH U.vm) : pPre X dC dI ad base cA as K I J R (as.map (trv ad)).toArray U :=
  ⟨rfl, va_K.moved hWm.alike hK, by rw [hU]; exact hSt.to hWm hW.2.2.1.2.1, had, by rw [hU]; exact hW.1, hW.2.1, by rw [hU]; exact hsz, hW.2.2.2⟩
theorem pCat {ad : Nat → Nat} (st : List Value) : ((st.map (trv ad)).map fun v => v.category).sum = (st.map fun v => v.category).sum := by
  rw [List.map_map]
  congr 1
  exact List.map_congr_left (fun v _ => trv_cat ad v)
theorem pE_callV {index n o ci d' : Nat} {y : MethodName} {mc : pMd} {as : List Value} {K' : List pS} {stk : List Value} (hd : decode md.2.1 pc = .ok (.invokevirtual index, 3)) (hlk : pLk md.1 index y) (hcw : pCw md.1 index y mc n) (hiv : Cond.instanceMethod y ∈ pTb ∧ Cond.selects y.cls y y ∈ pTb) (hcl : ∃ r : vw_C, vwCl[ci]? = some r ∧ r.1 = y.cls) (hs : K[o]? = some (.inl ci)) (hn : as.length = n) (hstk : stk = as.reverse ++ .ref o :: st) (hst : (st.map fun v => v.category).sum ≤ 8) (hdd : d' + 1 ≤ d) (hK : K.length ≤ K'.length ∧ K'.length ≤ K1.length ∧ pSz K ≤ pSz K' ∧ pSz K' ≤ pSz K1 ∧ K'.length ≤ 1000)
    (hM : pM l X y mc d' (.ref o :: as) K K' I J R (pNx l X md d K1 (pc + 3) lc st K' Q)) : pE l X md d K1 pc lc stk K I J R Q := by
  intro dC dI ad base cA p e Rm s m args below meth c n0 z0 Z hC hr H locs cells slots ls hW h1 h2 hL
  subst hstk
  refine pW_size hC.2.1.2.2.2.1 hC.2.1.2.2.2.2 hW h1 (fun hsz => ?_)
  obtain ⟨hx, hb, hml, hret, hlk2, hown, hin⟩ := hC.1
  obtain ⟨hts, hKn, hSt, hbs, had⟩ := hC.2.1
  obtain ⟨hr1, hr2, hr3, hr4⟩ := hC.2.2
  obtain ⟨w1, w2, w3, w4, w5, w6⟩ := hcw
  obtain ⟨r, hcl1, hcl2⟩ := hcl
  have hlen : ∀ sig, parseMethodDescriptor y.desc = some sig → n = sig.parameters.length := fun sig h => by
    rw [h] at w5
    exact (Option.some.inj w5).symm
  have hrecv := va_recv hKn hW.1 hcl1 (pW_get (cA := cA) (ad := ad) (I := I) (J := J) (R := R) hs)
  rw [hcl2] at hrecv
  have hpre : PreV s H y.cls (ad o) (pPre X dC dI ad base cA (.ref o :: as) K I J R) (as.map (trv ad)) := ⟨pBlind, hrecv, fun U hU hWm => pPcAt hKn hSt had hW hsz U hU hWm⟩
  have hsk : (F0 m pc ls ((as.reverse ++ Value.ref o :: st).map (trv ad))).stack = (as.map (trv ad)).reverse ++ .ref (ad o) :: st.map (trv ad) := by
    simp [List.map_append, List.map_reverse, trv]
  have hroom : 2 * (F0 m pc ls ((as.reverse ++ Value.ref o :: st).map (trv ad))).monitorRoom + ((st.map (trv ad)).map fun v => v.category).sum ≤ 8 := lv_room (by rw [pCat]; exact hst)
  have hlc : (pRm d' K K').frames + 1 ≤ Rm.frames ∧ 8 + (mc.2.2.1 + 11) + (pRm d' K K').locals ≤ Rm.locals := by
    refine ⟨?_, ?_⟩
    · show d' + 1 ≤ Rm.frames
      omega
    · show 8 + (mc.2.2.1 + 11) + 40 * d' ≤ Rm.locals
      omega
  have hfit : cells + (K'.length - K.length) ≤ Rm.cells ∧ slots + (pSz K' - pSz K) ≤ Rm.slots := by omega
  have hrun : va_Run p l e Rm s m args below meth c H locs cells slots (K'.length - K.length) (pSz K' - pSz K) (F0 m pc ls ((as.reverse ++ Value.ref o :: st).map (trv ad))) (st.map (trv ad)) (pPost dC dI ad base cA K' (pNx l X md d K1 (pc + 3) lc st K' Q) (Value.ref (ad o) :: as.map (trv ad)).toArray) (pG base) := by
    rcases hlk with hlk | ⟨host, hlk⟩
    · exact va_runV ⟨hx, hb, hml, hown, hts⟩ (hM dC dI ad base cA) (C := y.cls) ⟨⟨rfl, rfl, hlc.1, hlc.2, pPay hts w2, List.mem_cons_self, hts _ w2, hts _ w1, ⟨w3, w4⟩, hlen, hts _ hlk⟩, hts _ hiv.1, hts _ hiv.2⟩ hpre rfl (by rw [List.length_map]; exact hn) hL.1.1 hsk hroom hd hfit
    · exact va_runVN ⟨hx, hb, hml, hown, hts⟩ (hM dC dI ad base cA) (C := y.cls) ⟨⟨⟨rfl, rfl, hlc.1, hlc.2, pPay hts w2, List.mem_cons_self⟩, hts _ w2, hts _ w1, ⟨w3, w4⟩, hlen, pNb_on hlk (hSt.2.2.1.2 _ hlk)⟩, hts _ hiv.1, hts _ hiv.2⟩ hpre rfl (by rw [List.length_map]; exact hn) hL.1.1 hsk hroom hd hfit
  refine pBack hrun hW.2.2.1 (fun rv I' J' R' H1 locs1 hq hrv a1 a2 a3 => ?_)
  have e1 : rv.toList ++ st.map (trv ad) = (rv.toList ++ st).map (trv ad) := by
    rcases hrv with rfl | ⟨x, rfl⟩ | ⟨x, rfl⟩ <;> rfl
  rw [e1]
  exact pNx_at hq dC dI ad base cA p e Rm s m args below meth c n0 z0 Z hC hr H1 locs1 _ _ ls ⟨a1, a2, a3, hK.2.2.2.2⟩ (by omega) (by omega) hL
end PE2
