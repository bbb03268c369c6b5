/-! the pure heap: shapes (an object of a class of vwCl, or an array of a kind and a length), ints, longs, references (places of the shapes' list) -/
/-- the tables' words that hold at every point of a walk -/
def pTb : List Cond := lw_tbl.filter goodWord
theorem pTb_good {w : Cond} (h : w ∈ pTb) : goodWord w = true := (List.mem_filter.mp h).2
/-- the words of nest mates' private members -/
def pIsN : Cond → Bool
  | .fieldLinkNest .. => true
  | .methodLinkNest .. => true
  | _ => false
def pNb : List Cond := lw_tbl.filter pIsN
theorem pNb_in {w : Cond} (h : w ∈ lw_tbl) (hg : pIsN w = true) : w ∈ pNb := List.mem_filter.mpr ⟨h, hg⟩
theorem pNb_warm {w : Cond} (h : w ∈ pNb) {s U : State} (hW : s.WarmedH U.vm) (hZ : va_Nw w s) : va_Nw w U := by
  have h2 := (List.mem_filter.mp h).2
  cases w with
  | fieldLinkNest a i b n d ho => exact va_Nw.warmF hW hZ
  | methodLinkNest a i x ho => exact va_Nw.warmM hW hZ
  | _ => cases h2
theorem pNb_on {w : Cond} (h : w ∈ pNb) {s : State} {args : Array Value} (hZ : va_Nw w s) : w.before args s = true := by
  have h2 := (List.mem_filter.mp h).2
  cases w with
  | fieldLinkNest a i b n d ho => exact va_Nw.use rfl hZ
  | methodLinkNest a i x ho => exact va_Nw.use rfl hZ
  | _ => cases h2
theorem pNb_of {w : Cond} (h : w ∈ pNb) {s : State} {args : Array Value} (hZ : w.before args s = true) : va_Nw w s := by
  have h2 := (List.mem_filter.mp h).2
  cases w with
  | fieldLinkNest a i b n d ho => exact va_Nw.of rfl hZ
  | methodLinkNest a i x ho => exact va_Nw.of rfl hZ
  | _ => cases h2
theorem pTb_in {w : Cond} (h : w ∈ lw_tbl) (hg : goodWord w = true) : w ∈ pTb := List.mem_filter.mpr ⟨h, hg⟩
abbrev pS : Type := Nat ⊕ (Nat × Nat)
abbrev pHI : Type := Nat → Nat → Int32
abbrev pHJ : Type := Nat → Nat → Int64
abbrev pHR : Type := Nat → Nat → Option Nat
def pu {α : Type} (f : Nat → Nat → α) (c k : Nat) (x : α) : Nat → Nat → α := fun c' => if c' = c then (fun k' => if k' = k then x else f c' k') else f c'
/-- a row of the heap anew -/
def pz {α : Type} (f : Nat → Nat → α) (c : Nat) (g : Nat → α) : Nat → Nat → α := fun c' => if c' = c then g else f c'
theorem pu_ne {α : Type} (f : Nat → Nat → α) {c j : Nat} (k : Nat) (x : α) (h : j ≠ c) : pu f c k x j = f j := by unfold pu; rw [if_neg h]
theorem pu_eq {α : Type} (f : Nat → Nat → α) (c k : Nat) (x : α) : pu f c k x c = fun k' => if k' = k then x else f c k' := by unfold pu; rw [if_pos rfl]
theorem pz_ne {α : Type} (f : Nat → Nat → α) {c j : Nat} (g : Nat → α) (h : j ≠ c) : pz f c g j = f j := by unfold pz; rw [if_neg h]
theorem pz_eq {α : Type} (f : Nat → Nat → α) (c : Nat) (g : Nat → α) : pz f c g c = g := by unfold pz; rw [if_pos rfl]
/-- the kinds of a class's fields: 0 an int, 1 a long, 2 a reference, 3 a boolean -/
def pkL : List (List Nat) := [[2, 2, 2, 2, 2, 0, 0, 0, 0, 0, 0, 0, 0, 2], [2, 2, 0, 2, 0], [0, 0, 0, 2, 2, 2, 2, 2, 2, 2, 0, 0], [2, 0, 0, 0, 2, 2], [2, 2, 2, 2], [2, 0], [0, 2, 2, 2, 2], [0, 0, 2, 2], [2, 2, 0, 3, 3, 3, 0, 0], [2, 2, 2, 0, 0, 0, 0], [2, 0, 0, 0, 0, 0, 0, 1], [2, 0, 2, 2, 2, 2, 2, 2, 2, 2, 2, 2, 2], [2, 0, 0, 0, 0, 0, 0, 0, 0, 1, 2, 2, 2, 2, 2, 2, 2, 2, 2, 2, 0, 0, 0, 0, 0, 0, 2, 2, 2, 2, 2, 2, 2, 2, 2, 2, 2, 0, 0, 0, 0, 0, 0, 3, 3, 2, 2, 2, 0, 0, 2, 2, 0, 2, 2, 2, 2, 2, 2, 2, 2, 2, 2, 2, 0, 0, 2, 2, 2]]
def pk (ci : Nat) : List Nat := pkL.getD ci []
def pf (ad : Nat → Nat) (I : pHI) (J : pHJ) (R : pHR) (i k : Nat) : Nat → Value
  | 1 => .long (J i k)
  | 2 => va_rf ((R i k).map ad)
  | _ => .int (I i k)
def pFs (ad : Nat → Nat) (I : pHI) (J : pHJ) (R : pHR) (i ci : Nat) : List Value := (pk ci).mapIdx (fun k kd => pf ad I J R i k kd)
def pCe (cA : Nat → ClassId) (ad : Nat → Nat) (I : pHI) (J : pHJ) (R : pHR) (i : Nat) : pS → va_E
  | .inl ci => .inr (ci, pFs ad I J R i ci)
  | .inr (t, n) => .inl (cA t, n, if t = 1 then .inr (.inl (J i)) else .inl (I i))
def pW (cA : Nat → ClassId) (ad : Nat → Nat) (K : List pS) (I : pHI) (J : pHJ) (R : pHR) : va_W := K.mapIdx (fun i sh => (ad i, pCe cA ad I J R i sh))
theorem pW_get {cA : Nat → ClassId} {ad : Nat → Nat} {K : List pS} {I : pHI} {J : pHJ} {R : pHR} {i : Nat} {sh : pS} (h : K[i]? = some sh) : (pW cA ad K I J R)[i]? = some (ad i, pCe cA ad I J R i sh) := by
  simp [pW, List.getElem?_mapIdx, h]
theorem pW_len {cA : Nat → ClassId} {ad : Nat → Nat} {K : List pS} {I : pHI} {J : pHJ} {R : pHR} : (pW cA ad K I J R).length = K.length := by simp [pW]
theorem pFs_get {ad : Nat → Nat} {I : pHI} {J : pHJ} {R : pHR} {i ci k kd : Nat} (h : (pk ci)[k]? = some kd) : (pFs ad I J R i ci)[k]? = some (pf ad I J R i k kd) := by
  simp [pFs, List.getElem?_mapIdx, h]
theorem pFs_len {ad : Nat → Nat} {I : pHI} {J : pHJ} {R : pHR} {i ci : Nat} : (pFs ad I J R i ci).length = (pk ci).length := by simp [pFs]
theorem pf_cg {ad : Nat → Nat} {I I' : pHI} {J J' : pHJ} {R R' : pHR} {i k kd : Nat} (h1 : I i k = I' i k) (h2 : J i k = J' i k) (h3 : R i k = R' i k) : pf ad I J R i k kd = pf ad I' J' R' i k kd := by
  unfold pf
  split <;> simp_all
theorem pFs_cg {ad : Nat → Nat} {I I' : pHI} {J J' : pHJ} {R R' : pHR} {i ci : Nat} (h1 : I i = I' i) (h2 : J i = J' i) (h3 : R i = R' i) : pFs ad I J R i ci = pFs ad I' J' R' i ci := by
  unfold pFs
  congr 1
  funext k kd
  exact pf_cg (by rw [h1]) (by rw [h2]) (by rw [h3])
theorem pCe_cg {cA : Nat → ClassId} {ad : Nat → Nat} {I I' : pHI} {J J' : pHJ} {R R' : pHR} {i : Nat} {sh : pS} (h1 : I i = I' i) (h2 : J i = J' i) (h3 : R i = R' i) : pCe cA ad I J R i sh = pCe cA ad I' J' R' i sh := by
  cases sh with
  | inl ci => simp only [pCe, pFs_cg h1 h2 h3]
  | inr q => obtain ⟨t, n⟩ := q; simp only [pCe, h1, h2]
/-- one cell of the world anew -/
theorem pW_set {cA : Nat → ClassId} {ad : Nat → Nat} {K : List pS} {I I' : pHI} {J J' : pHJ} {R R' : pHR} {c : Nat} {sh : pS} {e : va_E} (h : K[c]? = some sh) (h1 : ∀ j, j ≠ c → I j = I' j) (h2 : ∀ j, j ≠ c → J j = J' j) (h3 : ∀ j, j ≠ c → R j = R' j) (he : e = pCe cA ad I' J' R' c sh) :
    (pW cA ad K I J R).set c (ad c, e) = pW cA ad K I' J' R' := by
  have hl : c < K.length := (List.getElem?_eq_some_iff.mp h).1
  apply List.ext_getElem?
  intro j
  by_cases hj : j = c
  · subst hj
    rw [List.getElem?_set_self (by rw [pW_len]; exact hl), pW_get h, he]
  · rw [List.getElem?_set_ne (Ne.symm hj)]
    simp only [pW, List.getElem?_mapIdx]
    cases K[j]? with
    | none => rfl
    | some x => simp only [Option.map_some, pCe_cg (h1 j hj) (h2 j hj) (h3 j hj)]
theorem pFs_set {ad : Nat → Nat} {I I' : pHI} {J J' : pHJ} {R R' : pHR} {i ci k kd : Nat} {v : Value} (h : (pk ci)[k]? = some kd) (h1 : ∀ j, j ≠ k → I i j = I' i j) (h2 : ∀ j, j ≠ k → J i j = J' i j) (h3 : ∀ j, j ≠ k → R i j = R' i j) (hv : v = pf ad I' J' R' i k kd) :
    (pFs ad I J R i ci).set k v = pFs ad I' J' R' i ci := by
  have hl : k < (pk ci).length := (List.getElem?_eq_some_iff.mp h).1
  apply List.ext_getElem?
  intro j
  by_cases hj : j = k
  · subst hj
    rw [List.getElem?_set_self (by rw [pFs_len]; exact hl), pFs_get h, hv]
  · rw [List.getElem?_set_ne (Ne.symm hj)]
    simp only [pFs, List.getElem?_mapIdx]
    cases (pk ci)[j]? with
    | none => rfl
    | some x => simp only [Option.map_some, pf_cg (h1 j hj) (h2 j hj) (h3 j hj)]
theorem pW_setI {cA : Nat → ClassId} {ad : Nat → Nat} {K : List pS} {I : pHI} {J : pHJ} {R : pHR} {c ci k kd : Nat} {x : Int32} (h : K[c]? = some (.inl ci)) (hk : (pk ci)[k]? = some kd) (hd : kd = 0 ∨ kd = 3) : (pW cA ad K I J R).set c (ad c, .inr (ci, (pFs ad I J R c ci).set k (.int x))) = pW cA ad K (pu I c k x) J R := by
  refine pW_set h (fun j hj => (pu_ne _ _ _ hj).symm) (fun _ _ => rfl) (fun _ _ => rfl) ?_
  simp only [pCe]
  rw [pFs_set (I' := pu I c k x) (J' := J) (R' := R) hk (fun j hj => by rw [pu_eq]; exact (if_neg hj).symm) (fun _ _ => rfl) (fun _ _ => rfl) (by rcases hd with rfl | rfl <;> simp [pf, pu_eq])]
theorem pW_setJ {cA : Nat → ClassId} {ad : Nat → Nat} {K : List pS} {I : pHI} {J : pHJ} {R : pHR} {c ci k : Nat} {x : Int64} (h : K[c]? = some (.inl ci)) (hk : (pk ci)[k]? = some 1) : (pW cA ad K I J R).set c (ad c, .inr (ci, (pFs ad I J R c ci).set k (.long x))) = pW cA ad K I (pu J c k x) R := by
  refine pW_set h (fun _ _ => rfl) (fun j hj => (pu_ne _ _ _ hj).symm) (fun _ _ => rfl) ?_
  simp only [pCe]
  rw [pFs_set (I' := I) (J' := pu J c k x) (R' := R) hk (fun _ _ => rfl) (fun j hj => by rw [pu_eq]; exact (if_neg hj).symm) (fun _ _ => rfl) (by simp [pf, pu_eq])]
theorem pW_setR {cA : Nat → ClassId} {ad : Nat → Nat} {K : List pS} {I : pHI} {J : pHJ} {R : pHR} {c ci k : Nat} {x : Nat} (h : K[c]? = some (.inl ci)) (hk : (pk ci)[k]? = some 2) : (pW cA ad K I J R).set c (ad c, .inr (ci, (pFs ad I J R c ci).set k (.ref (ad x)))) = pW cA ad K I J (pu R c k (some x)) := by
  refine pW_set h (fun _ _ => rfl) (fun _ _ => rfl) (fun j hj => (pu_ne _ _ _ hj).symm) ?_
  simp only [pCe]
  rw [pFs_set (I' := I) (J' := J) (R' := pu R c k (some x)) hk (fun _ _ => rfl) (fun _ _ => rfl) (fun j hj => by rw [pu_eq]; exact (if_neg hj).symm) (by simp [pf, pu_eq, va_rf])]
theorem pW_setA {cA : Nat → ClassId} {ad : Nat → Nat} {K : List pS} {I : pHI} {J : pHJ} {R : pHR} {c t n j : Nat} {x : Int32} (h : K[c]? = some (.inr (t, n))) (ht : t ≠ 1) : (pW cA ad K I J R).set c (ad c, .inl (cA t, n, .inl (upd (I c) j x))) = pW cA ad K (pu I c j x) J R := by
  refine pW_set h (fun j hj => (pu_ne _ _ _ hj).symm) (fun _ _ => rfl) (fun _ _ => rfl) ?_
  simp only [pCe, if_neg ht, pu_eq]
  rfl
theorem pW_setL {cA : Nat → ClassId} {ad : Nat → Nat} {K : List pS} {I : pHI} {J : pHJ} {R : pHR} {c n j : Nat} {x : Int64} (h : K[c]? = some (.inr (1, n))) : (pW cA ad K I J R).set c (ad c, .inl (cA 1, n, .inr (.inl (vp_updL (J c) j x)))) = pW cA ad K I (pu J c j x) R := by
  refine pW_set h (fun _ _ => rfl) (fun j hj => (pu_ne _ _ _ hj).symm) (fun _ _ => rfl) ?_
  simp only [pCe, if_pos, pu_eq]
  rfl
theorem pW_setZ {cA : Nat → ClassId} {ad : Nat → Nat} {K : List pS} {I : pHI} {J : pHJ} {R : pHR} {c t n : Nat} {g : Nat → Int32} (h : K[c]? = some (.inr (t, n))) (ht : t ≠ 1) : (pW cA ad K I J R).set c (ad c, .inl (cA t, n, .inl g)) = pW cA ad K (pz I c g) J R := by
  refine pW_set h (fun j hj => (pz_ne _ _ hj).symm) (fun _ _ => rfl) (fun _ _ => rfl) ?_
  simp only [pCe, if_neg ht, pz_eq]
theorem pW_push {cA : Nat → ClassId} {ad : Nat → Nat} {K : List pS} {I I' : pHI} {J J' : pHJ} {R R' : pHR} {sh : pS} {e : va_E} (h1 : ∀ j, j ≠ K.length → I j = I' j) (h2 : ∀ j, j ≠ K.length → J j = J' j) (h3 : ∀ j, j ≠ K.length → R j = R' j) (he : e = pCe cA ad I' J' R' K.length sh) : pW cA ad K I J R ++ [(ad K.length, e)] = pW cA ad (K ++ [sh]) I' J' R' := by
  unfold pW
  rw [List.mapIdx_append, he]
  congr 1
  · apply List.ext_getElem?
    intro j
    simp only [List.getElem?_mapIdx]
    cases hj : K[j]? with
    | none => rfl
    | some x =>
      have hl := (List.getElem?_eq_some_iff.mp hj).1
      simp only [Option.map_some, pCe_cg (h1 j (by omega)) (h2 j (by omega)) (h3 j (by omega))]
  · simp
/-! values and locals -/
def trv (ad : Nat → Nat) : Value → Value
  | .ref i => .ref (ad i)
  | v => v
theorem trv_cat (ad : Nat → Nat) (v : Value) : (trv ad v).category = v.category := by cases v <;> rfl
abbrev pLc : Type := List (Option Value)
/-- no long right ahead of a place -/
def pnl (lc : pLc) : Nat → Bool
  | 0 => true
  | i + 1 => match lc[i]? with
    | some (some v) => v.category == 1
    | _ => true
def pll (ad : Nat → Nat) (lc : pLc) : List (Nat × Value) := lc.zipIdx.filterMap (fun q => q.1.map (fun v => (q.2, trv ad v)))
theorem pll_mem {ad : Nat → Nat} {lc : pLc} {i : Nat} {v : Value} (h : lc[i]? = some (some v)) : (i, trv ad v) ∈ pll ad lc := by
  unfold pll
  rw [List.mem_filterMap]
  exact ⟨(some v, i), List.mem_zipIdx_iff_getElem?.mpr h, rfl⟩
theorem pll_in {ad : Nat → Nat} {lc : pLc} {q : Nat × Value} (h : q ∈ pll ad lc) : ∃ v, lc[q.1]? = some (some v) ∧ q.2 = trv ad v := by
  unfold pll at h
  rw [List.mem_filterMap] at h
  obtain ⟨⟨o, i⟩, h1, h2⟩ := h
  cases o with
  | none => cases h2
  | some v =>
    cases h2
    exact ⟨v, List.mem_zipIdx_iff_getElem?.mp h1, rfl⟩
def pLs (ad : Nat → Nat) (n : Nat) (lc : pLc) (ls : Array Slot) : Prop := (ls.size = n ∧ lc.length = n) ∧ lv_wf ls ∧ ∀ (i : Nat) (v : Value), lc[i]? = some (some v) → ls[i]? = some (.val (trv ad v))
theorem pLs_has {ad : Nat → Nat} {n : Nat} {lc : pLc} {ls : Array Slot} (h : pLs ad n lc ls) : lv_has ls n (pll ad lc) := by
  refine ⟨h.1.1, h.2.1, fun q hq => ?_⟩
  obtain ⟨v, h1, h2⟩ := pll_in hq
  rw [h2]
  exact h.2.2 _ _ h1
theorem pnl_cat {ad : Nat → Nat} {lc : pLc} {i j : Nat} {v : Value} (hp : pnl lc i = true) (hj : j + 1 = i) (h : lc[j]? = some (some v)) : (trv ad v).category ≠ 2 := by
  subst hj
  simp only [pnl, h, beq_iff_eq] at hp
  rw [trv_cat, hp]
  decide
theorem pLs_set1 {ad : Nat → Nat} {n : Nat} {lc : pLc} {ls ls' : Array Slot} {i : Nat} {v w : Value} (h : pLs ad n lc ls) (hw : trv ad v = w) (hp : pnl lc i = true) (hl : lv_has ls' n ((i, w) :: (pll ad lc).filter (fun q => !(q.1 == i) && !(q.1 + 1 == i && q.2.category == 2)))) : pLs ad n (lc.set i (some v)) ls' := by
  refine ⟨⟨hl.1, by rw [List.length_set]; exact h.1.2⟩, hl.2.1, fun j x hj => ?_⟩
  by_cases hij : j = i
  · subst hij
    have hlt : j < lc.length := by
      have := (List.getElem?_eq_some_iff.mp hj).1
      rwa [List.length_set] at this
    rw [List.getElem?_set_self hlt] at hj
    cases hj
    rw [hw]
    exact hl.2.2 _ List.mem_cons_self
  · rw [List.getElem?_set_ne (Ne.symm hij)] at hj
    refine hl.2.2 (j, trv ad x) (List.mem_cons_of_mem _ (List.mem_filter.mpr ⟨pll_mem hj, ?_⟩))
    by_cases h1 : j + 1 = i
    · have := pnl_cat (ad := ad) hp h1 hj
      simp [hij, this]
    · simp [hij, h1]
theorem pLs_set2 {ad : Nat → Nat} {n : Nat} {lc : pLc} {ls ls' : Array Slot} {i : Nat} {v w : Value} (h : pLs ad n lc ls) (hw : trv ad v = w) (hp : pnl lc i = true) (hl : lv_has ls' n ((i, w) :: (pll ad lc).filter (fun q => !(q.1 == i) && (!(q.1 == i + 1) && !(q.1 + 1 == i && q.2.category == 2))))) : pLs ad n ((lc.set i (some v)).set (i + 1) none) ls' := by
  refine ⟨⟨hl.1, by rw [List.length_set, List.length_set]; exact h.1.2⟩, hl.2.1, fun j x hj => ?_⟩
  by_cases hij1 : j = i + 1
  · subst hij1
    rw [List.getElem?_set_self' ] at hj
    cases hq : (lc.set i (some v))[i + 1]? with
    | none => rw [hq] at hj; cases hj
    | some z => rw [hq] at hj; cases hj
  · rw [List.getElem?_set_ne (Ne.symm hij1)] at hj
    by_cases hij : j = i
    · subst hij
      have hlt : j < lc.length := by
        have := (List.getElem?_eq_some_iff.mp hj).1
        rwa [List.length_set] at this
      rw [List.getElem?_set_self hlt] at hj
      cases hj
      rw [hw]
      exact hl.2.2 _ List.mem_cons_self
    · rw [List.getElem?_set_ne (Ne.symm hij)] at hj
      refine hl.2.2 (j, trv ad x) (List.mem_cons_of_mem _ (List.mem_filter.mpr ⟨pll_mem hj, ?_⟩))
      by_cases h1 : j + 1 = i
      · have := pnl_cat (ad := ad) hp h1 hj
        simp [hij, hij1, this]
      · simp [hij, hij1, h1]
/-- a method's locals at its entry -/
def pAr : List Value → pLc
  | [] => []
  | v :: vs => if v.category = 2 then some v :: none :: pAr vs else some v :: pAr vs
def pEn (as : List Value) (n : Nat) : pLc := pAr as ++ List.replicate (n - (pAr as).length) none
theorem pAr_len (ad : Nat → Nat) (as : List Value) : (pAr as).length = (lg_sl (as.map (trv ad))).length := by
  induction as with
  | nil => rfl
  | cons v vs ih =>
    simp only [pAr, List.map_cons, lg_sl, List.flatMap_cons, trv_cat] at ih ⊢
    by_cases h : v.category = 2 <;> simp [h, ih] <;> omega
theorem pAr_in (ad : Nat → Nat) (as : List Value) : ∀ (b i : Nat) (v : Value), (pAr as)[i]? = some (some v) → (b + i, trv ad v) ∈ lv_args b (as.map (trv ad)) := by
  induction as with
  | nil => intro b i v h; simp [pAr] at h
  | cons w vs ih =>
    intro b i v h
    simp only [pAr, List.map_cons, lv_args, trv_cat] at h ⊢
    by_cases hc : w.category = 2
    · rw [if_pos hc] at h ⊢
      match i, h with
      | 0, h => simp at h; subst h; exact List.mem_cons_self
      | 1, h => simp at h
      | i + 2, h =>
        simp only [List.getElem?_cons_succ] at h
        have := ih (b + 2) i v h
        rw [show b + 2 + i = b + (i + 2) by omega] at this
        exact List.mem_cons_of_mem _ this
    · rw [if_neg hc] at h ⊢
      match i, h with
      | 0, h => simp at h; subst h; exact List.mem_cons_self
      | i + 1, h =>
        simp only [List.getElem?_cons_succ] at h
        have := ih (b + 1) i v h
        rw [show b + 1 + i = b + (i + 1) by omega] at this
        exact List.mem_cons_of_mem _ this
theorem pLs_entry {ad : Nat → Nat} {as : List Value} {n : Nat} (h : (pAr as).length ≤ n) : pLs ad n (pEn as n) ((lg_sl (as.map (trv ad)) ++ List.replicate (n - (lg_sl (as.map (trv ad))).length) Slot.unset).toArray) := by
  obtain ⟨h1, h2, h3⟩ := lv_entry (as.map (trv ad)) (n := n) (by rw [← pAr_len]; exact h)
  refine ⟨⟨h1, by rw [pEn, List.length_append, List.length_replicate]; omega⟩, h2, fun i v hi => ?_⟩
  unfold pEn at hi
  by_cases hl : i < (pAr as).length
  · rw [List.getElem?_append_left hl] at hi
    have := pAr_in ad as 0 i v hi
    rw [Nat.zero_add] at this
    exact h3 _ this
  · rw [List.getElem?_append_right (by omega)] at hi
    have := List.mem_of_getElem? hi
    simp at this
/-! what stays as it was at the start of the whole: the script, the Strings' constants, a static -/
abbrev pX : Type := Nat × (Nat → Int32)
def pG (base : Nat) : Nat → Prop := fun q => base ≤ q
def pNS : Nat := 19
def pLen : List Nat := [11, 7, 4, 6, 94, 2, 6, 5, 4, 5, 6, 3, 5, 4, 7, 3, 2, 5, 4]
def pByt : List (List Int32) := [[59, 40, 41, 60, 62, 61, 43, 45, 42, 47, 37], [115, 116, 111, 114, 101, 121, 115], [108, 105, 102, 116], [116, 101, 110, 97, 110, 116], [115, 116, 111, 114, 101, 121, 115, 32, 108, 105, 102, 116, 32, 116, 101, 110, 97, 110, 116, 32, 111, 110, 32, 115, 116, 114, 111, 110, 103, 32, 104, 101, 97, 118, 121, 32, 111, 119, 101, 115, 32, 102, 97, 105, 108, 115, 32, 99, 111, 117, 110, 116, 115, 32, 109, 111, 118, 101, 115, 32, 100, 114, 97, 119, 32, 111, 114, 32, 97, 110, 100, 32, 110, 111, 116, 32, 110, 105, 103, 104, 116, 32, 119, 101, 101, 107, 32, 99, 108, 105, 109, 98, 101, 100], [111, 110], [115, 116, 114, 111, 110, 103], [104, 101, 97, 118, 121], [111, 119, 101, 115], [102, 97, 105, 108, 115], [99, 111, 117, 110, 116, 115], [110, 111, 116], [110, 105, 103, 104, 116], [119, 101, 101, 107], [99, 108, 105, 109, 98, 101, 100], [97, 110, 100], [111, 114], [109, 111, 118, 101, 115], [100, 114, 97, 119]]
def pSR : List (String × Nat × String) := [("SoManyStairs$Tokens", 61, ";()<>=+-*/%"), ("SoManyStairs$Reader", 56, "storeys"), ("SoManyStairs$Reader", 92, "lift"), ("SoManyStairs$Reader", 100, "tenant"), ("SoManyStairs$Tokens", 79, "storeys lift tenant on strong heavy owes fails counts moves draw or and not night week climbed"), ("SoManyStairs$Reader", 131, "on"), ("SoManyStairs$Reader", 140, "strong"), ("SoManyStairs$Reader", 144, "heavy"), ("SoManyStairs$Reader", 148, "owes"), ("SoManyStairs$Reader", 152, "fails"), ("SoManyStairs$Reader", 108, "counts"), ("SoManyStairs$Reader", 191, "not"), ("SoManyStairs$Reader", 224, "night"), ("SoManyStairs$Reader", 226, "week"), ("SoManyStairs$Reader", 228, "climbed"), ("SoManyStairs$Reader", 189, "and"), ("SoManyStairs$Reader", 181, "or"), ("SoManyStairs$Reader", 117, "moves"), ("SoManyStairs$Reader", 121, "draw")]
def pSt (X : pX) (ad : Nat → Nat) (base : Nat) (U : State) (H : Heap) : Prop :=
  vk_S pNS pLen pByt (fun i => ad (1000000 + 2 * i)) (fun i => ad (1000001 + 2 * i)) (pG base) U H ∧
  (∀ i q, pSR[i]? = some q → vk_R q.1 q.2.1 q.2.2 (ad (1000000 + 2 * i)) U) ∧
  ((va_Z "java/lang/String" "COMPACT_STRINGS" "Z" (.int 1) (pG base) U H ∧ (va_Z "jdk/internal/util/Preconditions" "SIOOBE_FORMATTER" "Ljava/util/function/BiFunction;" .null (pG base) U H ∨ va_Z "jdk/internal/util/Preconditions" "SIOOBE_FORMATTER" "Ljava/util/function/BiFunction;" (.ref (ad 2000001)) (pG base) U H)) ∧ ∀ w ∈ pNb, va_Nw w U) ∧
  va_X (ad 2000000) X.1 X.2 U H ∧ ad 2000000 < base
theorem pSt.to {X : pX} {ad : Nat → Nat} {base : Nat} {s U : State} {H : Heap} (h : pSt X ad base s s.heap) (hW : s.WarmedH U.vm) (hq : ∀ q : Nat, q < s.heap.size → ¬ pG base q → H[q]? = s.heap[q]?) : pSt X ad base U H := by
  obtain ⟨a1, a2, a3, a4, a5⟩ := h
  have hb : ad 2000000 < s.heap.size := by
    obtain ⟨scr, h1, -⟩ := a4
    exact (Array.getElem?_eq_some_iff.mp h1).1
  refine ⟨(vk_S.moved hW.alike a1).kept hq, fun i q hi => vk_R.warm hW (a2 i q hi), ⟨⟨(va_Z.moved hW.alike a3.1.1).kept hq, a3.1.2.elim (fun z => Or.inl ((va_Z.moved hW.alike z).kept hq)) (fun z => Or.inr ((va_Z.moved hW.alike z).kept hq))⟩, fun w hw => pNb_warm hw hW (a3.2 w hw)⟩, (va_X.moved hW.alike a4).kept (hq _ hb (fun g => ?_)), a5⟩
  have g' : base ≤ ad 2000000 := g
  omega
/-! THE JUDGEMENT: from here the method comes to its end, with Q of its answer and of the pure heap -/
abbrev pMd : Type := String × ByteArray × Nat × Option FieldType × Bool
def pTy (cA : Nat → ClassId) : List (ClassId × FieldType) := [(cA 0, .int), (cA 1, .long), (cA 2, .byte), (cA 3, .boolean)]
def pSz1 : pS → Nat
  | .inl ci => (pk ci).length
  | .inr (_, n) => n
def pSz (K : List pS) : Nat := (K.map pSz1).sum
def pCx (X : pX) (md : pMd) (d : Nat) (K1 : List pS) (n0 z0 : Nat) (dC : Nat → ClassId) (dI : Nat → Nat → Nat) (ad : Nat → Nat) (base : Nat) (cA : Nat → ClassId) (p : Program) (Rm : Room) (s : State) (m : MethodId) (args : Array Value) (meth : Method) (c : Code) : Prop :=
  (p.tables.exec = Jvm.exec ∧ c.code = md.2.1 ∧ c.maxLocals = md.2.2.1 ∧ meth.sig.returnType = md.2.2.2.1 ∧ meth.locks = false ∧ s.vm.findClass md.1 = some m.cls ∧ (md.2.2.2.2 = true → meth.name = "<init>")) ∧
  ((∀ w ∈ pTb, w.before args s = true) ∧ va_K (dC, dI) vwCl (pTy cA) s ∧ pSt X ad base s s.heap ∧ s.heap.size = base + n0 ∧ (∀ i, i < 1000000 → ad i = base + i)) ∧
  (d ≤ Rm.frames ∧ 40 * d ≤ Rm.locals ∧ K1.length ≤ n0 + Rm.cells ∧ pSz K1 ≤ z0 + Rm.slots)
def pWd (dC : Nat → ClassId) (dI : Nat → Nat → Nat) (ad : Nat → Nat) (base : Nat) (cA : Nat → ClassId) (K : List pS) (I : pHI) (J : pHJ) (R : pHR) (s : State) (H : Heap) (locs : List Loc) : Prop :=
  va_P (dC, dI) vwCl (pW cA ad K I J R) H ∧ va_D (pG base) (pW cA ad K I J R) ∧ va_S (pG base) s.heap H locs ∧ K.length ≤ 1000
def pAt (cc : ByteArray) (ret : Option FieldType) (pc : Nat) : Option Value → Prop
  | none => decode cc pc = .ok (.return_, 1) ∧ ret = none
  | some (.int v) => decode cc pc = .ok (.ireturn, 1) ∧ ∃ ty, ret = some ty ∧ narrow ty (.int v) = .int v
  | some (.long _) => decode cc pc = .ok (.lreturn, 1) ∧ ret = some .long
  | some _ => False
abbrev pQ : Type := Option Value → pHI → pHJ → pHR → Prop
def pE (l : Launch) (X : pX) (md : pMd) (d : Nat) (K1 : List pS) (pc : Nat) (lc : pLc) (st : List Value) (K : List pS) (I : pHI) (J : pHJ) (R : pHR) (Q : pQ) : Prop :=
  ∀ (dC : Nat → ClassId) (dI : Nat → Nat → Nat) (ad : Nat → Nat) (base : Nat) (cA : Nat → ClassId) (p : Program) (e : Env) (Rm : Room) (s : State) (m : MethodId) (args : Array Value) (below : List Frame) (meth : Method) (c : Code) (n0 z0 : Nat) (Z : State → Prop),
    pCx X md d K1 n0 z0 dC dI ad base cA p Rm s m args meth c →
    (∀ (pc' : Nat) (ls' : Array Slot) (rv : Option Value) (I' : pHI) (J' : pHJ) (R' : pHR) (H' : Heap) (locs' : List Loc) (cells' slots' : Nat), pAt md.2.1 md.2.2.2.1 pc' rv → Q rv I' J' R' → pWd dC dI ad base cA K1 I' J' R' s H' locs' → cells' + n0 = K1.length → slots' + z0 = pSz K1 →
      W p l e Rm s m args below meth c H' locs' cells' slots' Z (F0 m pc' ls' rv.toList)) →
    ∀ (H : Heap) (locs : List Loc) (cells slots : Nat) (ls : Array Slot), pWd dC dI ad base cA K I J R s H locs → cells + n0 = K.length → slots + z0 = pSz K → pLs ad md.2.2.1 lc ls →
      W p l e Rm s m args below meth c H locs cells slots Z (F0 m pc ls (st.map (trv ad)))
theorem pE.mono {l : Launch} {X : pX} {md : pMd} {d : Nat} {K1 : List pS} {pc : Nat} {lc : pLc} {st : List Value} {K : List pS} {I : pHI} {J : pHJ} {R : pHR} {Q Q' : pQ} (h : pE l X md d K1 pc lc st K I J R Q) (hQ : ∀ rv I' J' R', Q rv I' J' R' → Q' rv I' J' R') : pE l X md d K1 pc lc st K I J R Q' := by
  intro dC dI ad base cA p e Rm s m args below meth c n0 z0 Z hC hr
  exact h dC dI ad base cA p e Rm s m args below meth c n0 z0 Z hC (fun pc' ls' rv I' J' R' H' locs' cells' slots' a b => hr pc' ls' rv I' J' R' H' locs' cells' slots' a (hQ _ _ _ _ b))
theorem pE.deep {l : Launch} {X : pX} {md : pMd} {d d' : Nat} {K1 : List pS} {pc : Nat} {lc : pLc} {st : List Value} {K : List pS} {I : pHI} {J : pHJ} {R : pHR} {Q : pQ} (h : pE l X md d K1 pc lc st K I J R Q) (hd : d ≤ d') : pE l X md d' K1 pc lc st K I J R Q := by
  intro dC dI ad base cA p e Rm s m args below meth c n0 z0 Z hC hr
  exact h dC dI ad base cA p e Rm s m args below meth c n0 z0 Z ⟨hC.1, hC.2.1, by have := hC.2.2.1; omega, by have := hC.2.2.2.1; omega, hC.2.2.2.2⟩ hr
section PE
variable {l : Launch} {X : pX} {md : pMd} {d : Nat} {K1 : List pS} {pc : Nat} {lc : pLc} {st : List Value} {K : List pS} {I : pHI} {J : pHJ} {R : pHR} {Q : pQ}

theorem pE_iadd {x y : Int32}  (hd : decode md.2.1 pc = .ok (.iadd, 1)) (k : pE l X md d K1 (pc + 1) lc (.int (x + y) :: st) K I J R Q) : pE l X md d K1 pc lc (.int y :: .int x :: st) K I J R Q := by
  intro dC dI ad base cA p e Rm s m args below meth c n0 z0 Z hC hr H locs cells slots ls hW h1 h2 hL
  exact lv_iadd hC.1.1 hC.1.2.1 hd (k dC dI ad base cA p e Rm s m args below meth c n0 z0 Z hC hr H locs cells slots ls hW h1 h2 hL)

theorem pE_isub {x y : Int32}  (hd : decode md.2.1 pc = .ok (.isub, 1)) (k : pE l X md d K1 (pc + 1) lc (.int (x - y) :: st) K I J R Q) : pE l X md d K1 pc lc (.int y :: .int x :: st) K I J R Q := by
  intro dC dI ad base cA p e Rm s m args below meth c n0 z0 Z hC hr H locs cells slots ls hW h1 h2 hL
  exact lv_isub hC.1.1 hC.1.2.1 hd (k dC dI ad base cA p e Rm s m args below meth c n0 z0 Z hC hr H locs cells slots ls hW h1 h2 hL)

theorem pE_imul {x y : Int32}  (hd : decode md.2.1 pc = .ok (.imul, 1)) (k : pE l X md d K1 (pc + 1) lc (.int (x * y) :: st) K I J R Q) : pE l X md d K1 pc lc (.int y :: .int x :: st) K I J R Q := by
  intro dC dI ad base cA p e Rm s m args below meth c n0 z0 Z hC hr H locs cells slots ls hW h1 h2 hL
  exact lv_imul hC.1.1 hC.1.2.1 hd (k dC dI ad base cA p e Rm s m args below meth c n0 z0 Z hC hr H locs cells slots ls hW h1 h2 hL)

theorem pE_iand {x y : Int32}  (hd : decode md.2.1 pc = .ok (.iand, 1)) (k : pE l X md d K1 (pc + 1) lc (.int (x &&& y) :: st) K I J R Q) : pE l X md d K1 pc lc (.int y :: .int x :: st) K I J R Q := by
  intro dC dI ad base cA p e Rm s m args below meth c n0 z0 Z hC hr H locs cells slots ls hW h1 h2 hL
  exact lv_iand hC.1.1 hC.1.2.1 hd (k dC dI ad base cA p e Rm s m args below meth c n0 z0 Z hC hr H locs cells slots ls hW h1 h2 hL)

theorem pE_ior {x y : Int32}  (hd : decode md.2.1 pc = .ok (.ior, 1)) (k : pE l X md d K1 (pc + 1) lc (.int (x ||| y) :: st) K I J R Q) : pE l X md d K1 pc lc (.int y :: .int x :: st) K I J R Q := by
  intro dC dI ad base cA p e Rm s m args below meth c n0 z0 Z hC hr H locs cells slots ls hW h1 h2 hL
  exact lv_ior hC.1.1 hC.1.2.1 hd (k dC dI ad base cA p e Rm s m args below meth c n0 z0 Z hC hr H locs cells slots ls hW h1 h2 hL)

theorem pE_ishl {x y : Int32}  (hd : decode md.2.1 pc = .ok (.ishl, 1)) (k : pE l X md d K1 (pc + 1) lc (.int (x <<< (y &&& 31)) :: st) K I J R Q) : pE l X md d K1 pc lc (.int y :: .int x :: st) K I J R Q := by
  intro dC dI ad base cA p e Rm s m args below meth c n0 z0 Z hC hr H locs cells slots ls hW h1 h2 hL
  exact lv_ishl hC.1.1 hC.1.2.1 hd (k dC dI ad base cA p e Rm s m args below meth c n0 z0 Z hC hr H locs cells slots ls hW h1 h2 hL)

theorem pE_ishr {x y : Int32}  (hd : decode md.2.1 pc = .ok (.ishr, 1)) (k : pE l X md d K1 (pc + 1) lc (.int (x >>> (y &&& 31)) :: st) K I J R Q) : pE l X md d K1 pc lc (.int y :: .int x :: st) K I J R Q := by
  intro dC dI ad base cA p e Rm s m args below meth c n0 z0 Z hC hr H locs cells slots ls hW h1 h2 hL
  exact lv_ishr hC.1.1 hC.1.2.1 hd (k dC dI ad base cA p e Rm s m args below meth c n0 z0 Z hC hr H locs cells slots ls hW h1 h2 hL)

theorem pE_idiv {x y : Int32}  (hd : decode md.2.1 pc = .ok (.idiv, 1)) (hne : ¬ y = 0) (k : pE l X md d K1 (pc + 1) lc (.int (x / y) :: st) K I J R Q) : pE l X md d K1 pc lc (.int y :: .int x :: st) K I J R Q := by
  intro dC dI ad base cA p e Rm s m args below meth c n0 z0 Z hC hr H locs cells slots ls hW h1 h2 hL
  exact lv_idiv hC.1.1 hC.1.2.1 hd hne (k dC dI ad base cA p e Rm s m args below meth c n0 z0 Z hC hr H locs cells slots ls hW h1 h2 hL)

theorem pE_irem {x y : Int32}  (hd : decode md.2.1 pc = .ok (.irem, 1)) (hne : ¬ y = 0) (k : pE l X md d K1 (pc + 1) lc (.int (x - x / y * y) :: st) K I J R Q) : pE l X md d K1 pc lc (.int y :: .int x :: st) K I J R Q := by
  intro dC dI ad base cA p e Rm s m args below meth c n0 z0 Z hC hr H locs cells slots ls hW h1 h2 hL
  exact lv_irem hC.1.1 hC.1.2.1 hd hne (k dC dI ad base cA p e Rm s m args below meth c n0 z0 Z hC hr H locs cells slots ls hW h1 h2 hL)

theorem pE_iushr {x y : Int32}  (hd : decode md.2.1 pc = .ok (.iushr, 1)) (k : pE l X md d K1 (pc + 1) lc (.int ((x.toUInt32 >>> (y.toUInt32 &&& Int32.toUInt32 31)).toInt32) :: st) K I J R Q) : pE l X md d K1 pc lc (.int y :: .int x :: st) K I J R Q := by
  intro dC dI ad base cA p e Rm s m args below meth c n0 z0 Z hC hr H locs cells slots ls hW h1 h2 hL
  exact lv_iushr hC.1.1 hC.1.2.1 hd rfl (k dC dI ad base cA p e Rm s m args below meth c n0 z0 Z hC hr H locs cells slots ls hW h1 h2 hL)

theorem pE_ladd {x y : Int64}  (hd : decode md.2.1 pc = .ok (.ladd, 1)) (k : pE l X md d K1 (pc + 1) lc (.long (x + y) :: st) K I J R Q) : pE l X md d K1 pc lc (.long y :: .long x :: st) K I J R Q := by
  intro dC dI ad base cA p e Rm s m args below meth c n0 z0 Z hC hr H locs cells slots ls hW h1 h2 hL
  exact lv_ladd hC.1.1 hC.1.2.1 hd (k dC dI ad base cA p e Rm s m args below meth c n0 z0 Z hC hr H locs cells slots ls hW h1 h2 hL)

theorem pE_lmul {x y : Int64}  (hd : decode md.2.1 pc = .ok (.lmul, 1)) (k : pE l X md d K1 (pc + 1) lc (.long (x * y) :: st) K I J R Q) : pE l X md d K1 pc lc (.long y :: .long x :: st) K I J R Q := by
  intro dC dI ad base cA p e Rm s m args below meth c n0 z0 Z hC hr H locs cells slots ls hW h1 h2 hL
  exact lv_lmul hC.1.1 hC.1.2.1 hd (k dC dI ad base cA p e Rm s m args below meth c n0 z0 Z hC hr H locs cells slots ls hW h1 h2 hL)

theorem pE_lor {x y : Int64}  (hd : decode md.2.1 pc = .ok (.lor, 1)) (k : pE l X md d K1 (pc + 1) lc (.long (x ||| y) :: st) K I J R Q) : pE l X md d K1 pc lc (.long y :: .long x :: st) K I J R Q := by
  intro dC dI ad base cA p e Rm s m args below meth c n0 z0 Z hC hr H locs cells slots ls hW h1 h2 hL
  exact lv_lor hC.1.1 hC.1.2.1 hd (k dC dI ad base cA p e Rm s m args below meth c n0 z0 Z hC hr H locs cells slots ls hW h1 h2 hL)

theorem pE_lshl {x : Int64} {y : Int32}  (hd : decode md.2.1 pc = .ok (.lshl, 1)) (k : pE l X md d K1 (pc + 1) lc (.long (x <<< (y.toInt64 &&& 63)) :: st) K I J R Q) : pE l X md d K1 pc lc (.int y :: .long x :: st) K I J R Q := by
  intro dC dI ad base cA p e Rm s m args below meth c n0 z0 Z hC hr H locs cells slots ls hW h1 h2 hL
  exact lv_lshl hC.1.1 hC.1.2.1 hd rfl (k dC dI ad base cA p e Rm s m args below meth c n0 z0 Z hC hr H locs cells slots ls hW h1 h2 hL)

theorem pE_i2l {x : Int32}  (hd : decode md.2.1 pc = .ok (.i2l, 1)) (k : pE l X md d K1 (pc + 1) lc (.long x.toInt64 :: st) K I J R Q) : pE l X md d K1 pc lc (.int x :: st) K I J R Q := by
  intro dC dI ad base cA p e Rm s m args below meth c n0 z0 Z hC hr H locs cells slots ls hW h1 h2 hL
  exact lv_i2l hC.1.1 hC.1.2.1 hd rfl (k dC dI ad base cA p e Rm s m args below meth c n0 z0 Z hC hr H locs cells slots ls hW h1 h2 hL)

theorem pE_i2b {x : Int32}  (hd : decode md.2.1 pc = .ok (.i2b, 1)) (k : pE l X md d K1 (pc + 1) lc (.int x.toInt8.toInt32 :: st) K I J R Q) : pE l X md d K1 pc lc (.int x :: st) K I J R Q := by
  intro dC dI ad base cA p e Rm s m args below meth c n0 z0 Z hC hr H locs cells slots ls hW h1 h2 hL
  exact lv_i2b hC.1.1 hC.1.2.1 hd rfl (k dC dI ad base cA p e Rm s m args below meth c n0 z0 Z hC hr H locs cells slots ls hW h1 h2 hL)

theorem pE_i2c {x : Int32}  (hd : decode md.2.1 pc = .ok (.i2c, 1)) (k : pE l X md d K1 (pc + 1) lc (.int (x.toUInt32 % 65536).toInt32 :: st) K I J R Q) : pE l X md d K1 pc lc (.int x :: st) K I J R Q := by
  intro dC dI ad base cA p e Rm s m args below meth c n0 z0 Z hC hr H locs cells slots ls hW h1 h2 hL
  exact lv_i2c hC.1.1 hC.1.2.1 hd rfl (k dC dI ad base cA p e Rm s m args below meth c n0 z0 Z hC hr H locs cells slots ls hW h1 h2 hL)

theorem pE_iconst {n : Int} {v : Int32}  (hd : decode md.2.1 pc = .ok (.iconst n, 1)) (hv : Int32.ofInt n = v) (k : pE l X md d K1 (pc + 1) lc (.int v :: st) K I J R Q) : pE l X md d K1 pc lc (st) K I J R Q := by
  intro dC dI ad base cA p e Rm s m args below meth c n0 z0 Z hC hr H locs cells slots ls hW h1 h2 hL
  exact lv_iconst hC.1.1 hC.1.2.1 hd hv (k dC dI ad base cA p e Rm s m args below meth c n0 z0 Z hC hr H locs cells slots ls hW h1 h2 hL)

theorem pE_bipush {n : Int} {v : Int32}  (hd : decode md.2.1 pc = .ok (.bipush n, 2)) (hv : (Int8.ofInt n).toInt32 = v) (k : pE l X md d K1 (pc + 2) lc (.int v :: st) K I J R Q) : pE l X md d K1 pc lc (st) K I J R Q := by
  intro dC dI ad base cA p e Rm s m args below meth c n0 z0 Z hC hr H locs cells slots ls hW h1 h2 hL
  exact lv_bipush hC.1.1 hC.1.2.1 hd hv (k dC dI ad base cA p e Rm s m args below meth c n0 z0 Z hC hr H locs cells slots ls hW h1 h2 hL)

theorem pE_sipush {n : Int} {v : Int32}  (hd : decode md.2.1 pc = .ok (.sipush n, 3)) (hv : (Int16.ofInt n).toInt32 = v) (k : pE l X md d K1 (pc + 3) lc (.int v :: st) K I J R Q) : pE l X md d K1 pc lc (st) K I J R Q := by
  intro dC dI ad base cA p e Rm s m args below meth c n0 z0 Z hC hr H locs cells slots ls hW h1 h2 hL
  exact lv_sipush hC.1.1 hC.1.2.1 hd hv (k dC dI ad base cA p e Rm s m args below meth c n0 z0 Z hC hr H locs cells slots ls hW h1 h2 hL)

theorem pE_lconst {n : Fin 2} {v : Int64}  (hd : decode md.2.1 pc = .ok (.lconst n, 1)) (hv : Int64.ofNat (n : Nat) = v) (k : pE l X md d K1 (pc + 1) lc (.long v :: st) K I J R Q) : pE l X md d K1 pc lc (st) K I J R Q := by
  intro dC dI ad base cA p e Rm s m args below meth c n0 z0 Z hC hr H locs cells slots ls hW h1 h2 hL
  exact lv_lconst hC.1.1 hC.1.2.1 hd hv (k dC dI ad base cA p e Rm s m args below meth c n0 z0 Z hC hr H locs cells slots ls hW h1 h2 hL)

theorem pE_dupI {x : Int32}  (hd : decode md.2.1 pc = .ok (.dup, 1)) (k : pE l X md d K1 (pc + 1) lc (.int x :: .int x :: st) K I J R Q) : pE l X md d K1 pc lc (.int x :: st) K I J R Q := by
  intro dC dI ad base cA p e Rm s m args below meth c n0 z0 Z hC hr H locs cells slots ls hW h1 h2 hL
  exact lv_dup hC.1.1 hC.1.2.1 hd rfl (k dC dI ad base cA p e Rm s m args below meth c n0 z0 Z hC hr H locs cells slots ls hW h1 h2 hL)

theorem pE_dupR {x : Nat}  (hd : decode md.2.1 pc = .ok (.dup, 1)) (k : pE l X md d K1 (pc + 1) lc (.ref x :: .ref x :: st) K I J R Q) : pE l X md d K1 pc lc (.ref x :: st) K I J R Q := by
  intro dC dI ad base cA p e Rm s m args below meth c n0 z0 Z hC hr H locs cells slots ls hW h1 h2 hL
  exact lv_dup hC.1.1 hC.1.2.1 hd rfl (k dC dI ad base cA p e Rm s m args below meth c n0 z0 Z hC hr H locs cells slots ls hW h1 h2 hL)

theorem pE_popI {x : Int32}  (hd : decode md.2.1 pc = .ok (.pop, 1)) (k : pE l X md d K1 (pc + 1) lc (st) K I J R Q) : pE l X md d K1 pc lc (.int x :: st) K I J R Q := by
  intro dC dI ad base cA p e Rm s m args below meth c n0 z0 Z hC hr H locs cells slots ls hW h1 h2 hL
  exact lv_pop hC.1.1 hC.1.2.1 hd rfl (k dC dI ad base cA p e Rm s m args below meth c n0 z0 Z hC hr H locs cells slots ls hW h1 h2 hL)

theorem pE_dup2 {x : Int32} {y : Nat}  (hd : decode md.2.1 pc = .ok (.dup2, 1)) (k : pE l X md d K1 (pc + 1) lc (.int x :: .ref y :: .int x :: .ref y :: st) K I J R Q) : pE l X md d K1 pc lc (.int x :: .ref y :: st) K I J R Q := by
  intro dC dI ad base cA p e Rm s m args below meth c n0 z0 Z hC hr H locs cells slots ls hW h1 h2 hL
  exact lv_dup2_11 hC.1.1 hC.1.2.1 hd rfl rfl (k dC dI ad base cA p e Rm s m args below meth c n0 z0 Z hC hr H locs cells slots ls hW h1 h2 hL)

theorem pE_lcmp {x y : Int64}  (hd : decode md.2.1 pc = .ok (.lcmp, 1)) (k : pE l X md d K1 (pc + 1) lc (.int (lg_cmp x y) :: st) K I J R Q) : pE l X md d K1 pc lc (.long y :: .long x :: st) K I J R Q := by
  intro dC dI ad base cA p e Rm s m args below meth c n0 z0 Z hC hr H locs cells slots ls hW h1 h2 hL
  exact W.lcmp hC.1.1 hC.1.2.1 hd (k dC dI ad base cA p e Rm s m args below meth c n0 z0 Z hC hr H locs cells slots ls hW h1 h2 hL)

theorem pE_iload_n {i : Nat} {j : Fin 4} {x : Int32}  (hd : decode md.2.1 pc = .ok (.iload_n j, 1)) (hi : (j : Nat) = i) (hx : lc[i]? = some (some (.int x))) (k : pE l X md d K1 (pc + 1) lc (.int x :: st) K I J R Q) : pE l X md d K1 pc lc (st) K I J R Q := by
  intro dC dI ad base cA p e Rm s m args below meth c n0 z0 Z hC hr H locs cells slots ls hW h1 h2 hL
  exact lv_iload_n hC.1.1 hC.1.2.1 hd hi (hL.2.2 _ _ hx) (k dC dI ad base cA p e Rm s m args below meth c n0 z0 Z hC hr H locs cells slots ls hW h1 h2 hL)

theorem pE_lload_n {i : Nat} {j : Fin 4} {x : Int64}  (hd : decode md.2.1 pc = .ok (.lload_n j, 1)) (hi : (j : Nat) = i) (hx : lc[i]? = some (some (.long x))) (k : pE l X md d K1 (pc + 1) lc (.long x :: st) K I J R Q) : pE l X md d K1 pc lc (st) K I J R Q := by
  intro dC dI ad base cA p e Rm s m args below meth c n0 z0 Z hC hr H locs cells slots ls hW h1 h2 hL
  exact lv_lload_n hC.1.1 hC.1.2.1 hd hi (hL.2.2 _ _ hx) (k dC dI ad base cA p e Rm s m args below meth c n0 z0 Z hC hr H locs cells slots ls hW h1 h2 hL)

theorem pE_aload_n {i : Nat} {j : Fin 4} {x : Nat}  (hd : decode md.2.1 pc = .ok (.aload_n j, 1)) (hi : (j : Nat) = i) (hx : lc[i]? = some (some (.ref x))) (k : pE l X md d K1 (pc + 1) lc (.ref x :: st) K I J R Q) : pE l X md d K1 pc lc (st) K I J R Q := by
  intro dC dI ad base cA p e Rm s m args below meth c n0 z0 Z hC hr H locs cells slots ls hW h1 h2 hL
  exact lv_aload_n hC.1.1 hC.1.2.1 hd hi (hL.2.2 _ _ hx) (k dC dI ad base cA p e Rm s m args below meth c n0 z0 Z hC hr H locs cells slots ls hW h1 h2 hL)

theorem pE_iload {i : Nat} {x : Int32}  (hd : decode md.2.1 pc = .ok (.iload i, 2)) (hx : lc[i]? = some (some (.int x))) (k : pE l X md d K1 (pc + 2) lc (.int x :: st) K I J R Q) : pE l X md d K1 pc lc (st) K I J R Q := by
  intro dC dI ad base cA p e Rm s m args below meth c n0 z0 Z hC hr H locs cells slots ls hW h1 h2 hL
  exact lv_iload hC.1.1 hC.1.2.1 hd (hL.2.2 _ _ hx) (k dC dI ad base cA p e Rm s m args below meth c n0 z0 Z hC hr H locs cells slots ls hW h1 h2 hL)

theorem pE_aload {i : Nat} {x : Nat}  (hd : decode md.2.1 pc = .ok (.aload i, 2)) (hx : lc[i]? = some (some (.ref x))) (k : pE l X md d K1 (pc + 2) lc (.ref x :: st) K I J R Q) : pE l X md d K1 pc lc (st) K I J R Q := by
  intro dC dI ad base cA p e Rm s m args below meth c n0 z0 Z hC hr H locs cells slots ls hW h1 h2 hL
  exact lv_aload hC.1.1 hC.1.2.1 hd (hL.2.2 _ _ hx) (k dC dI ad base cA p e Rm s m args below meth c n0 z0 Z hC hr H locs cells slots ls hW h1 h2 hL)

theorem pE_istore_n {i : Nat} {j : Fin 4} {x : Int32} (hd : decode md.2.1 pc = .ok (.istore_n j, 1)) (hi : (j : Nat) = i) (hn : i < lc.length) (hp : pnl lc i = true) {lc' : pLc} (hl0 : lc.set i (some (.int x)) = lc') (k : pE l X md d K1 (pc + 1) lc' st K I J R Q) : pE l X md d K1 pc lc (.int x :: st) K I J R Q := by
  subst hl0
  intro dC dI ad base cA p e Rm s m args below meth c n0 z0 Z hC hr H locs cells slots ls hW h1 h2 hL
  exact lv_istore_n hC.1.1 hC.1.2.1 hd hi (pLs_has hL) (by have := hL.1.2; omega) rfl (fun ls' hl' => k dC dI ad base cA p e Rm s m args below meth c n0 z0 Z hC hr H locs cells slots ls' hW h1 h2 (pLs_set1 (v := .int x) hL rfl hp hl'))

theorem pE_astore_n {i : Nat} {j : Fin 4} {x : Nat} (hd : decode md.2.1 pc = .ok (.astore_n j, 1)) (hi : (j : Nat) = i) (hn : i < lc.length) (hp : pnl lc i = true) {lc' : pLc} (hl0 : lc.set i (some (.ref x)) = lc') (k : pE l X md d K1 (pc + 1) lc' st K I J R Q) : pE l X md d K1 pc lc (.ref x :: st) K I J R Q := by
  subst hl0
  intro dC dI ad base cA p e Rm s m args below meth c n0 z0 Z hC hr H locs cells slots ls hW h1 h2 hL
  exact lv_astore_n hC.1.1 hC.1.2.1 hd hi (pLs_has hL) (by have := hL.1.2; omega) rfl (fun ls' hl' => k dC dI ad base cA p e Rm s m args below meth c n0 z0 Z hC hr H locs cells slots ls' hW h1 h2 (pLs_set1 (v := .ref x) hL rfl hp hl'))

theorem pE_istore {i : Nat} {x : Int32} (hd : decode md.2.1 pc = .ok (.istore i, 2)) (hn : i < lc.length) (hp : pnl lc i = true) {lc' : pLc} (hl0 : lc.set i (some (.int x)) = lc') (k : pE l X md d K1 (pc + 2) lc' st K I J R Q) : pE l X md d K1 pc lc (.int x :: st) K I J R Q := by
  subst hl0
  intro dC dI ad base cA p e Rm s m args below meth c n0 z0 Z hC hr H locs cells slots ls hW h1 h2 hL
  exact lv_istore hC.1.1 hC.1.2.1 hd (pLs_has hL) (by have := hL.1.2; omega) rfl (fun ls' hl' => k dC dI ad base cA p e Rm s m args below meth c n0 z0 Z hC hr H locs cells slots ls' hW h1 h2 (pLs_set1 (v := .int x) hL rfl hp hl'))

theorem pE_lstore_n {i : Nat} {j : Fin 4} {x : Int64} (hd : decode md.2.1 pc = .ok (.lstore_n j, 1)) (hi : (j : Nat) = i) (hn : i + 1 < lc.length) (hp : pnl lc i = true) {lc' : pLc} (hl0 : (lc.set i (some (.long x))).set (i + 1) none = lc') (k : pE l X md d K1 (pc + 1) lc' st K I J R Q) : pE l X md d K1 pc lc (.long x :: st) K I J R Q := by
  subst hl0
  intro dC dI ad base cA p e Rm s m args below meth c n0 z0 Z hC hr H locs cells slots ls hW h1 h2 hL
  exact lv_lstore_n hC.1.1 hC.1.2.1 hd hi (pLs_has hL) (by have := hL.1.2; omega) rfl (fun ls' hl' => k dC dI ad base cA p e Rm s m args below meth c n0 z0 Z hC hr H locs cells slots ls' hW h1 h2 (pLs_set2 hL rfl hp hl'))
theorem pE_iinc {i : Nat} {n : Int} {x c0 : Int32} (hd : decode md.2.1 pc = .ok (.iinc i n, 3)) (hx : lc[i]? = some (some (.int x))) (hv : Int32.ofInt n = c0) (hp : pnl lc i = true) {lc' : pLc} (hl0 : lc.set i (some (.int (x + c0))) = lc') (k : pE l X md d K1 (pc + 3) lc' st K I J R Q) : pE l X md d K1 pc lc st K I J R Q := by
  subst hl0
  intro dC dI ad base cA p e Rm s m args below meth c n0 z0 Z hC hr H locs cells slots ls hW h1 h2 hL
  obtain ⟨kk, hkk⟩ := List.getElem?_of_mem (pll_mem (ad := ad) hx)
  exact lv_iinc hC.1.1 hC.1.2.1 hd (pLs_has hL) hkk (v := x + c0) (by rw [hv]) (by have := (List.getElem?_eq_some_iff.mp hx).1; have := hL.1.2; omega) rfl (fun ls' hl' => k dC dI ad base cA p e Rm s m args below meth c n0 z0 Z hC hr H locs cells slots ls' hW h1 h2 (pLs_set1 (v := .int (x + c0)) hL rfl hp hl'))

theorem pE_if_eq {x : Int32} {off : Int} {tgt : Nat} (hd : decode md.2.1 pc = .ok (.ifCond .eq off, 3)) (ht : (pc : Int) + off = (tgt : Int)) (kt : x = 0 → pE l X md d K1 tgt lc st K I J R Q) (kf : ¬ (x = 0) → pE l X md d K1 (pc + 3) lc st K I J R Q) : pE l X md d K1 pc lc (.int x :: st) K I J R Q := by
  intro dC dI ad base cA p e Rm s m args below meth c n0 z0 Z hC hr H locs cells slots ls hW h1 h2 hL
  exact lv_if_eq hC.1.1 hC.1.2.1 hd ht (fun h => kt h dC dI ad base cA p e Rm s m args below meth c n0 z0 Z hC hr H locs cells slots ls hW h1 h2 hL) (fun h => kf h dC dI ad base cA p e Rm s m args below meth c n0 z0 Z hC hr H locs cells slots ls hW h1 h2 hL)

theorem pE_icmp_eq {x y : Int32} {off : Int} {tgt : Nat} (hd : decode md.2.1 pc = .ok (.if_icmp .eq off, 3)) (ht : (pc : Int) + off = (tgt : Int)) (kt : x = y → pE l X md d K1 tgt lc st K I J R Q) (kf : ¬ (x = y) → pE l X md d K1 (pc + 3) lc st K I J R Q) : pE l X md d K1 pc lc (.int y :: .int x :: st) K I J R Q := by
  intro dC dI ad base cA p e Rm s m args below meth c n0 z0 Z hC hr H locs cells slots ls hW h1 h2 hL
  exact lv_icmp_eq hC.1.1 hC.1.2.1 hd ht (fun h => kt h dC dI ad base cA p e Rm s m args below meth c n0 z0 Z hC hr H locs cells slots ls hW h1 h2 hL) (fun h => kf h dC dI ad base cA p e Rm s m args below meth c n0 z0 Z hC hr H locs cells slots ls hW h1 h2 hL)

theorem pE_if_ne {x : Int32} {off : Int} {tgt : Nat} (hd : decode md.2.1 pc = .ok (.ifCond .ne off, 3)) (ht : (pc : Int) + off = (tgt : Int)) (kt : ¬ x = 0 → pE l X md d K1 tgt lc st K I J R Q) (kf : (x = 0) → pE l X md d K1 (pc + 3) lc st K I J R Q) : pE l X md d K1 pc lc (.int x :: st) K I J R Q := by
  intro dC dI ad base cA p e Rm s m args below meth c n0 z0 Z hC hr H locs cells slots ls hW h1 h2 hL
  exact lv_if_ne hC.1.1 hC.1.2.1 hd ht (fun h => kt h dC dI ad base cA p e Rm s m args below meth c n0 z0 Z hC hr H locs cells slots ls hW h1 h2 hL) (fun h => kf h dC dI ad base cA p e Rm s m args below meth c n0 z0 Z hC hr H locs cells slots ls hW h1 h2 hL)

theorem pE_icmp_ne {x y : Int32} {off : Int} {tgt : Nat} (hd : decode md.2.1 pc = .ok (.if_icmp .ne off, 3)) (ht : (pc : Int) + off = (tgt : Int)) (kt : ¬ x = y → pE l X md d K1 tgt lc st K I J R Q) (kf : (x = y) → pE l X md d K1 (pc + 3) lc st K I J R Q) : pE l X md d K1 pc lc (.int y :: .int x :: st) K I J R Q := by
  intro dC dI ad base cA p e Rm s m args below meth c n0 z0 Z hC hr H locs cells slots ls hW h1 h2 hL
  exact lv_icmp_ne hC.1.1 hC.1.2.1 hd ht (fun h => kt h dC dI ad base cA p e Rm s m args below meth c n0 z0 Z hC hr H locs cells slots ls hW h1 h2 hL) (fun h => kf h dC dI ad base cA p e Rm s m args below meth c n0 z0 Z hC hr H locs cells slots ls hW h1 h2 hL)

theorem pE_if_lt {x : Int32} {off : Int} {tgt : Nat} (hd : decode md.2.1 pc = .ok (.ifCond .lt off, 3)) (ht : (pc : Int) + off = (tgt : Int)) (kt : x < 0 → pE l X md d K1 tgt lc st K I J R Q) (kf : ¬ (x < 0) → pE l X md d K1 (pc + 3) lc st K I J R Q) : pE l X md d K1 pc lc (.int x :: st) K I J R Q := by
  intro dC dI ad base cA p e Rm s m args below meth c n0 z0 Z hC hr H locs cells slots ls hW h1 h2 hL
  exact lv_if_lt hC.1.1 hC.1.2.1 hd ht (fun h => kt h dC dI ad base cA p e Rm s m args below meth c n0 z0 Z hC hr H locs cells slots ls hW h1 h2 hL) (fun h => kf h dC dI ad base cA p e Rm s m args below meth c n0 z0 Z hC hr H locs cells slots ls hW h1 h2 hL)

theorem pE_icmp_lt {x y : Int32} {off : Int} {tgt : Nat} (hd : decode md.2.1 pc = .ok (.if_icmp .lt off, 3)) (ht : (pc : Int) + off = (tgt : Int)) (kt : x < y → pE l X md d K1 tgt lc st K I J R Q) (kf : ¬ (x < y) → pE l X md d K1 (pc + 3) lc st K I J R Q) : pE l X md d K1 pc lc (.int y :: .int x :: st) K I J R Q := by
  intro dC dI ad base cA p e Rm s m args below meth c n0 z0 Z hC hr H locs cells slots ls hW h1 h2 hL
  exact lv_icmp_lt hC.1.1 hC.1.2.1 hd ht (fun h => kt h dC dI ad base cA p e Rm s m args below meth c n0 z0 Z hC hr H locs cells slots ls hW h1 h2 hL) (fun h => kf h dC dI ad base cA p e Rm s m args below meth c n0 z0 Z hC hr H locs cells slots ls hW h1 h2 hL)

theorem pE_if_ge {x : Int32} {off : Int} {tgt : Nat} (hd : decode md.2.1 pc = .ok (.ifCond .ge off, 3)) (ht : (pc : Int) + off = (tgt : Int)) (kt : 0 ≤ x → pE l X md d K1 tgt lc st K I J R Q) (kf : ¬ (0 ≤ x) → pE l X md d K1 (pc + 3) lc st K I J R Q) : pE l X md d K1 pc lc (.int x :: st) K I J R Q := by
  intro dC dI ad base cA p e Rm s m args below meth c n0 z0 Z hC hr H locs cells slots ls hW h1 h2 hL
  exact lv_if_ge hC.1.1 hC.1.2.1 hd ht (fun h => kt h dC dI ad base cA p e Rm s m args below meth c n0 z0 Z hC hr H locs cells slots ls hW h1 h2 hL) (fun h => kf h dC dI ad base cA p e Rm s m args below meth c n0 z0 Z hC hr H locs cells slots ls hW h1 h2 hL)

theorem pE_icmp_ge {x y : Int32} {off : Int} {tgt : Nat} (hd : decode md.2.1 pc = .ok (.if_icmp .ge off, 3)) (ht : (pc : Int) + off = (tgt : Int)) (kt : y ≤ x → pE l X md d K1 tgt lc st K I J R Q) (kf : ¬ (y ≤ x) → pE l X md d K1 (pc + 3) lc st K I J R Q) : pE l X md d K1 pc lc (.int y :: .int x :: st) K I J R Q := by
  intro dC dI ad base cA p e Rm s m args below meth c n0 z0 Z hC hr H locs cells slots ls hW h1 h2 hL
  exact lv_icmp_ge hC.1.1 hC.1.2.1 hd ht (fun h => kt h dC dI ad base cA p e Rm s m args below meth c n0 z0 Z hC hr H locs cells slots ls hW h1 h2 hL) (fun h => kf h dC dI ad base cA p e Rm s m args below meth c n0 z0 Z hC hr H locs cells slots ls hW h1 h2 hL)

theorem pE_if_gt {x : Int32} {off : Int} {tgt : Nat} (hd : decode md.2.1 pc = .ok (.ifCond .gt off, 3)) (ht : (pc : Int) + off = (tgt : Int)) (kt : 0 < x → pE l X md d K1 tgt lc st K I J R Q) (kf : ¬ (0 < x) → pE l X md d K1 (pc + 3) lc st K I J R Q) : pE l X md d K1 pc lc (.int x :: st) K I J R Q := by
  intro dC dI ad base cA p e Rm s m args below meth c n0 z0 Z hC hr H locs cells slots ls hW h1 h2 hL
  exact lv_if_gt hC.1.1 hC.1.2.1 hd ht (fun h => kt h dC dI ad base cA p e Rm s m args below meth c n0 z0 Z hC hr H locs cells slots ls hW h1 h2 hL) (fun h => kf h dC dI ad base cA p e Rm s m args below meth c n0 z0 Z hC hr H locs cells slots ls hW h1 h2 hL)

theorem pE_icmp_gt {x y : Int32} {off : Int} {tgt : Nat} (hd : decode md.2.1 pc = .ok (.if_icmp .gt off, 3)) (ht : (pc : Int) + off = (tgt : Int)) (kt : y < x → pE l X md d K1 tgt lc st K I J R Q) (kf : ¬ (y < x) → pE l X md d K1 (pc + 3) lc st K I J R Q) : pE l X md d K1 pc lc (.int y :: .int x :: st) K I J R Q := by
  intro dC dI ad base cA p e Rm s m args below meth c n0 z0 Z hC hr H locs cells slots ls hW h1 h2 hL
  exact lv_icmp_gt hC.1.1 hC.1.2.1 hd ht (fun h => kt h dC dI ad base cA p e Rm s m args below meth c n0 z0 Z hC hr H locs cells slots ls hW h1 h2 hL) (fun h => kf h dC dI ad base cA p e Rm s m args below meth c n0 z0 Z hC hr H locs cells slots ls hW h1 h2 hL)

theorem pE_if_le {x : Int32} {off : Int} {tgt : Nat} (hd : decode md.2.1 pc = .ok (.ifCond .le off, 3)) (ht : (pc : Int) + off = (tgt : Int)) (kt : x ≤ 0 → pE l X md d K1 tgt lc st K I J R Q) (kf : ¬ (x ≤ 0) → pE l X md d K1 (pc + 3) lc st K I J R Q) : pE l X md d K1 pc lc (.int x :: st) K I J R Q := by
  intro dC dI ad base cA p e Rm s m args below meth c n0 z0 Z hC hr H locs cells slots ls hW h1 h2 hL
  exact lv_if_le hC.1.1 hC.1.2.1 hd ht (fun h => kt h dC dI ad base cA p e Rm s m args below meth c n0 z0 Z hC hr H locs cells slots ls hW h1 h2 hL) (fun h => kf h dC dI ad base cA p e Rm s m args below meth c n0 z0 Z hC hr H locs cells slots ls hW h1 h2 hL)

theorem pE_icmp_le {x y : Int32} {off : Int} {tgt : Nat} (hd : decode md.2.1 pc = .ok (.if_icmp .le off, 3)) (ht : (pc : Int) + off = (tgt : Int)) (kt : x ≤ y → pE l X md d K1 tgt lc st K I J R Q) (kf : ¬ (x ≤ y) → pE l X md d K1 (pc + 3) lc st K I J R Q) : pE l X md d K1 pc lc (.int y :: .int x :: st) K I J R Q := by
  intro dC dI ad base cA p e Rm s m args below meth c n0 z0 Z hC hr H locs cells slots ls hW h1 h2 hL
  exact lv_icmp_le hC.1.1 hC.1.2.1 hd ht (fun h => kt h dC dI ad base cA p e Rm s m args below meth c n0 z0 Z hC hr H locs cells slots ls hW h1 h2 hL) (fun h => kf h dC dI ad base cA p e Rm s m args below meth c n0 z0 Z hC hr H locs cells slots ls hW h1 h2 hL)

theorem pE_goto {off : Int} {tgt : Nat} (hd : decode md.2.1 pc = .ok (.goto off, 3)) (ht : (pc : Int) + off = (tgt : Int)) (k : pE l X md d K1 tgt lc st K I J R Q) : pE l X md d K1 pc lc st K I J R Q := by
  intro dC dI ad base cA p e Rm s m args below meth c n0 z0 Z hC hr H locs cells slots ls hW h1 h2 hL
  exact lv_goto hC.1.1 hC.1.2.1 hd ht (k dC dI ad base cA p e Rm s m args below meth c n0 z0 Z hC hr H locs cells slots ls hW h1 h2 hL)
theorem pE_ldc {index : Nat} {v : Int32} (hd : decode md.2.1 pc = .ok (.ldc index, 2)) (hw : Cond.constant md.1 index v ∈ pTb) (k : pE l X md d K1 (pc + 2) lc (.int v :: st) K I J R Q) : pE l X md d K1 pc lc st K I J R Q := by
  intro dC dI ad base cA p e Rm s m args below meth c n0 z0 Z hC hr H locs cells slots ls hW h1 h2 hL
  exact lv_ldc hC.1.1 hC.1.2.1 hC.1.2.2.2.2.2.1 (hC.2.1.1 _ hw) hd (k dC dI ad base cA p e Rm s m args below meth c n0 z0 Z hC hr H locs cells slots ls hW h1 h2 hL)
theorem pE_ldcw {index : Nat} {v : Int32} (hd : decode md.2.1 pc = .ok (.ldc_w index, 3)) (hw : Cond.constant md.1 index v ∈ pTb) (k : pE l X md d K1 (pc + 3) lc (.int v :: st) K I J R Q) : pE l X md d K1 pc lc st K I J R Q := by
  intro dC dI ad base cA p e Rm s m args below meth c n0 z0 Z hC hr H locs cells slots ls hW h1 h2 hL
  exact lv_ldcw hC.1.1 hC.1.2.1 hC.1.2.2.2.2.2.1 (hC.2.1.1 _ hw) hd (k dC dI ad base cA p e Rm s m args below meth c n0 z0 Z hC hr H locs cells slots ls hW h1 h2 hL)
theorem pE_ldc2 {index : Nat} {v : Int64} (hd : decode md.2.1 pc = .ok (.ldc2_w index, 3)) (hw : Cond.constantLong md.1 index v ∈ pTb) (k : pE l X md d K1 (pc + 3) lc (.long v :: st) K I J R Q) : pE l X md d K1 pc lc st K I J R Q := by
  intro dC dI ad base cA p e Rm s m args below meth c n0 z0 Z hC hr H locs cells slots ls hW h1 h2 hL
  exact lv_ldc2 hC.1.1 hC.1.2.1 hC.1.2.2.2.2.2.1 (hC.2.1.1 _ hw) hd (k dC dI ad base cA p e Rm s m args below meth c n0 z0 Z hC hr H locs cells slots ls hW h1 h2 hL)
theorem pE_ldcS {index i : Nat} {tx : String} (hd : decode md.2.1 pc = .ok (.ldc index, 2)) (hw : pSR[i]? = some (md.1, index, tx)) (k : pE l X md d K1 (pc + 2) lc (.ref (1000000 + 2 * i) :: st) K I J R Q) : pE l X md d K1 pc lc st K I J R Q := by
  intro dC dI ad base cA p e Rm s m args below meth c n0 z0 Z hC hr H locs cells slots ls hW h1 h2 hL
  exact va_ldcS hC.1.1 hC.1.2.1 hC.1.2.2.2.2.2.1 (hC.2.1.2.2.1.2.1 _ _ hw) hd (k dC dI ad base cA p e Rm s m args below meth c n0 z0 Z hC hr H locs cells slots ls hW h1 h2 hL)
theorem pE_tableOut {dflt lo hi : Int} {offs : Array Int} {len : Nat} {x : Int32} {tgt : Nat} (hd : decode md.2.1 pc = .ok (.tableswitch dflt lo hi offs, len)) (h : x.toInt < lo ∨ hi < x.toInt) (ht : (pc : Int) + dflt = (tgt : Int)) (k : pE l X md d K1 tgt lc st K I J R Q) : pE l X md d K1 pc lc (.int x :: st) K I J R Q := by
  intro dC dI ad base cA p e Rm s m args below meth c n0 z0 Z hC hr H locs cells slots ls hW h1 h2 hL
  exact lv_tableOut hC.1.1 hC.1.2.1 hd h ht (k dC dI ad base cA p e Rm s m args below meth c n0 z0 Z hC hr H locs cells slots ls hW h1 h2 hL)
theorem pE_tableIn {dflt lo hi : Int} {offs : Array Int} {len : Nat} {x : Int32} {off : Int} {tgt : Nat} (hd : decode md.2.1 pc = .ok (.tableswitch dflt lo hi offs, len)) (g1 : ¬ x.toInt < lo) (g2 : ¬ hi < x.toInt) (ho : offs[(x.toInt - lo).toNat]? = some off) (ht : (pc : Int) + off = (tgt : Int)) (k : pE l X md d K1 tgt lc st K I J R Q) : pE l X md d K1 pc lc (.int x :: st) K I J R Q := by
  intro dC dI ad base cA p e Rm s m args below meth c n0 z0 Z hC hr H locs cells slots ls hW h1 h2 hL
  exact lv_tableIn hC.1.1 hC.1.2.1 hd g1 g2 ho ht (k dC dI ad base cA p e Rm s m args below meth c n0 z0 Z hC hr H locs cells slots ls hW h1 h2 hL)
theorem pE_lookup {dflt : Int} {ps : Array (Int × Int)} {len : Nat} {x : Int32} {off : Int} {tgt : Nat} (hd : decode md.2.1 pc = .ok (.lookupswitch dflt ps, len)) (hp : (ps.toList.zip (ps.toList.drop 1)).all (fun (a, next) => a.1 < next.1) = true) (ho : Op.lookupswitch.offset ps.toList dflt x.toInt = off) (ht : (pc : Int) + off = (tgt : Int)) (k : pE l X md d K1 tgt lc st K I J R Q) : pE l X md d K1 pc lc (.int x :: st) K I J R Q := by
  intro dC dI ad base cA p e Rm s m args below meth c n0 z0 Z hC hr H locs cells slots ls hW h1 h2 hL
  exact lv_lookup hC.1.1 hC.1.2.1 hd hp ho ht (k dC dI ad base cA p e Rm s m args below meth c n0 z0 Z hC hr H locs cells slots ls hW h1 h2 hL)
/-! fields -/
def pFl (own : String) (index ci k : Nat) : Prop := ∃ r : vw_C, vwCl[ci]? = some r ∧ k < r.2.2 ∧ (∀ w ∈ u_ws r.1 r.2.1 r.2.2, w ∈ pTb) ∧ (Cond.fieldLink own index (r.2.1 k).1 (r.2.1 k).2.1 (r.2.1 k).2.2.1 ∈ pTb ∨ ∃ host : String, Cond.fieldLinkNest own index (r.2.1 k).1 (r.2.1 k).2.1 (r.2.1 k).2.2.1 host ∈ pNb)
/-- a class's table: types, names apart -/
def pFt (ci : Nat) (ty0 : Nat → FieldType) : Prop := ∃ r : vw_C, vwCl[ci]? = some r ∧ (∀ k, k < r.2.2 → parseFieldDescriptor (r.2.1 k).2.2.1 = some (ty0 k)) ∧ (∀ a, a < r.2.2 → ∀ b, b < r.2.2 → a ≠ b → (r.2.1 a).2.1 ≠ (r.2.1 b).2.1) ∧ (pk ci).length = r.2.2
def pFfin (ci k : Nat) (fin : Bool) : Prop := ∃ r : vw_C, vwCl[ci]? = some r ∧ (r.2.1 k).2.2.2 = fin
theorem pE_getV {index ci k kd o : Nat} (hd : decode md.2.1 pc = .ok (.getfield index, 3)) (hf : pFl md.1 index ci k) (hk : (pk ci)[k]? = some kd) (hs : K[o]? = some (.inl ci)) {v : Value} (hv : ∀ ad, trv ad v = pf ad I J R o k kd) (kk : pE l X md d K1 (pc + 3) lc (v :: st) K I J R Q) : pE l X md d K1 pc lc (.ref o :: st) K I J R Q := by
  intro dC dI ad base cA p e Rm s m args below meth c n0 z0 Z hC hr H locs cells slots ls hW h1 h2 hL
  obtain ⟨⟨C, T, N⟩, hc, hkN, hin, hl⟩ := hf
  have he := pW_get (cA := cA) (ad := ad) (I := I) (J := J) (R := R) hs
  have hvv := pFs_get (ad := ad) (I := I) (J := J) (R := R) (i := o) hk
  rw [← hv ad] at hvv
  have kk' := kk dC dI ad base cA p e Rm s m args below meth c n0 z0 Z hC hr H locs cells slots ls hW h1 h2 hL
  rcases hl with hl | ⟨host, hl⟩
  · exact va_get hC.1.1 hC.1.2.1 hC.2.1.1 hin hC.1.2.2.2.2.2.1 hC.2.1.2.1 hW.1 o he hc k hkN (hC.2.1.1 _ hl) (fun _ h => h) hvv hd kk'
  · exact va_getN hC.1.1 hC.1.2.1 hC.2.1.1 hin hC.1.2.2.2.2.2.1 hC.2.1.2.1 hW.1 o he hc k hkN (pNb_on hl (hC.2.1.2.2.1.2.2.1.2 _ hl)) (fun _ h => h) hvv hd kk'
theorem pE_getI {index ci k kd o : Nat} (hd : decode md.2.1 pc = .ok (.getfield index, 3)) (hf : pFl md.1 index ci k) (hk : (pk ci)[k]? = some kd) (hkd : kd = 0 ∨ kd = 3) (hs : K[o]? = some (.inl ci)) (kk : pE l X md d K1 (pc + 3) lc (.int (I o k) :: st) K I J R Q) : pE l X md d K1 pc lc (.ref o :: st) K I J R Q :=
  pE_getV hd hf hk hs (v := .int (I o k)) (fun ad => by rcases hkd with rfl | rfl <;> rfl) kk
theorem pE_getJ {index ci k o : Nat} (hd : decode md.2.1 pc = .ok (.getfield index, 3)) (hf : pFl md.1 index ci k) (hk : (pk ci)[k]? = some 1) (hs : K[o]? = some (.inl ci)) (kk : pE l X md d K1 (pc + 3) lc (.long (J o k) :: st) K I J R Q) : pE l X md d K1 pc lc (.ref o :: st) K I J R Q :=
  pE_getV hd hf hk hs (v := .long (J o k)) (fun ad => rfl) kk
theorem pE_getR {index ci k o x : Nat} (hd : decode md.2.1 pc = .ok (.getfield index, 3)) (hf : pFl md.1 index ci k) (hk : (pk ci)[k]? = some 2) (hs : K[o]? = some (.inl ci)) (hx : R o k = some x) (kk : pE l X md d K1 (pc + 3) lc (.ref x :: st) K I J R Q) : pE l X md d K1 pc lc (.ref o :: st) K I J R Q :=
  pE_getV hd hf hk hs (v := .ref x) (fun ad => by simp [pf, hx, va_rf, trv]) kk
theorem pE_putV {index ci k kd o : Nat} {ty0 : Nat → FieldType} {fin : Bool} (hd : decode md.2.1 pc = .ok (.putfield index, 3)) (hf : pFl md.1 index ci k) (ht : pFt ci ty0) (hfi : pFfin ci k fin) (hini : fin = true → md.2.2.2.2 = true ∧ ∃ r : vw_C, vwCl[ci]? = some r ∧ (r.2.1 k).1 = md.1 ∧ Cond.fieldLink md.1 index (r.2.1 k).1 (r.2.1 k).2.1 (r.2.1 k).2.2.1 ∈ pTb) (hk : (pk ci)[k]? = some kd) (hs : K[o]? = some (.inl ci)) {v : Value} (hn : ∀ ad, narrow (ty0 k) (trv ad v) = trv ad v) (hfit : ∀ ad, fits (ty0 k) (trv ad v) = true) {I' : pHI} {J' : pHJ} {R' : pHR}
    (hset : ∀ (cA : Nat → ClassId) (ad : Nat → Nat), (pW cA ad K I J R).set o (ad o, .inr (ci, (pFs ad I J R o ci).set k (trv ad v))) = pW cA ad K I' J' R') (kk : pE l X md d K1 (pc + 3) lc st K I' J' R' Q) : pE l X md d K1 pc lc (v :: .ref o :: st) K I J R Q := by
  intro dC dI ad base cA p e Rm s m args below meth c n0 z0 Z hC hr H locs cells slots ls hW h1 h2 hL
  obtain ⟨⟨C, T, N⟩, hc, hkN, hin, hl⟩ := hf
  obtain ⟨r2, hc2, hty, hnm, hlen⟩ := ht
  cases hc.symm.trans hc2
  obtain ⟨r3, hc3, hfin⟩ := hfi
  cases hc.symm.trans hc3
  have he := pW_get (cA := cA) (ad := ad) (I := I) (J := J) (R := R) hs
  have hl2 : k < (pFs ad I J R o ci).length := by rw [pFs_len, hlen]; exact hkN
  have go : ∀ (H1 : Heap) (locs1 : List Loc), va_P (dC, dI) vwCl ((pW cA ad K I J R).set o (ad o, .inr (ci, (pFs ad I J R o ci).set k (trv ad v)))) H1 → va_D (pG base) ((pW cA ad K I J R).set o (ad o, .inr (ci, (pFs ad I J R o ci).set k (trv ad v)))) → va_S (pG base) s.heap H1 locs1 → W p l e Rm s m args below meth c H1 locs1 cells slots Z (F0 m (pc + 3) ls (st.map (trv ad))) := by
    intro H1 locs1 a1 a2 a3
    rw [hset] at a1 a2
    exact kk dC dI ad base cA p e Rm s m args below meth c n0 z0 Z hC hr H1 locs1 cells slots ls ⟨a1, a2, a3, hW.2.2.2⟩ h1 h2 hL
  by_cases hf : fin = true
  · obtain ⟨g1, r4, hc4, g2, hl⟩ := hini hf
    cases hc.symm.trans hc4
    exact va_putF hC.1.1 hC.1.2.1 hC.2.1.1 hin ty0 hty hnm hC.1.2.2.2.2.2.1 hC.2.1.2.1 hW.1 hW.2.1 hW.2.2.1 o he hc k hkN (hC.2.1.1 _ hl) (fun _ h => h) (hfin.trans hf) (hC.1.2.2.2.2.2.2 g1) g2 (hty k hkN) (hn ad) (hfit ad) hl2 hd go
  · rcases hl with hl | ⟨host, hl⟩
    · exact va_put hC.1.1 hC.1.2.1 hC.2.1.1 hin ty0 hty hnm hC.1.2.2.2.2.2.1 hC.2.1.2.1 hW.1 hW.2.1 hW.2.2.1 o he hc k hkN (hC.2.1.1 _ hl) (fun _ h => h) (hfin.trans (Bool.eq_false_iff.mpr hf)) (hty k hkN) (hn ad) (hfit ad) hl2 hd go
    · exact va_putN hC.1.1 hC.1.2.1 hC.2.1.1 hin ty0 hty hnm hC.1.2.2.2.2.2.1 hC.2.1.2.1 hW.1 hW.2.1 hW.2.2.1 o he hc k hkN (pNb_on hl (hC.2.1.2.2.1.2.2.1.2 _ hl)) (fun _ h => h) (hfin.trans (Bool.eq_false_iff.mpr hf)) (hty k hkN) (hn ad) (hfit ad) hl2 hd go
/-! arrays -/
theorem pE_iaload {o n : Nat} {i : Int32} (hd : decode md.2.1 pc = .ok (.iaload, 1)) (hs : K[o]? = some (.inr (0, n))) (hin : vp_in i n) (kk : pE l X md d K1 (pc + 1) lc (.int (I o i.toNatClampNeg) :: st) K I J R Q) : pE l X md d K1 pc lc (.int i :: .ref o :: st) K I J R Q := by
  intro dC dI ad base cA p e Rm s m args below meth c n0 z0 Z hC hr H locs cells slots ls hW h1 h2 hL
  exact va_iald hC.1.1 hC.1.2.1 hC.2.1.2.1 hW.1 o 0 (pW_get (cA := cA) (ad := ad) (I := I) (J := J) (R := R) hs) rfl hin hd (kk dC dI ad base cA p e Rm s m args below meth c n0 z0 Z hC hr H locs cells slots ls hW h1 h2 hL)
theorem pE_baload {o n : Nat} {i : Int32} (hd : decode md.2.1 pc = .ok (.baload, 1)) (hs : K[o]? = some (.inr (2, n))) (hin : vp_in i n) (kk : pE l X md d K1 (pc + 1) lc (.int (I o i.toNatClampNeg) :: st) K I J R Q) : pE l X md d K1 pc lc (.int i :: .ref o :: st) K I J R Q := by
  intro dC dI ad base cA p e Rm s m args below meth c n0 z0 Z hC hr H locs cells slots ls hW h1 h2 hL
  exact va_bald hC.1.1 hC.1.2.1 hC.2.1.2.1 hW.1 o 2 (pW_get (cA := cA) (ad := ad) (I := I) (J := J) (R := R) hs) rfl hin hd (kk dC dI ad base cA p e Rm s m args below meth c n0 z0 Z hC hr H locs cells slots ls hW h1 h2 hL)
theorem pE_zaload {o n : Nat} {i : Int32} (hd : decode md.2.1 pc = .ok (.baload, 1)) (hs : K[o]? = some (.inr (3, n))) (hin : vp_in i n) (kk : pE l X md d K1 (pc + 1) lc (.int (I o i.toNatClampNeg) :: st) K I J R Q) : pE l X md d K1 pc lc (.int i :: .ref o :: st) K I J R Q := by
  intro dC dI ad base cA p e Rm s m args below meth c n0 z0 Z hC hr H locs cells slots ls hW h1 h2 hL
  exact va_zald hC.1.1 hC.1.2.1 hC.2.1.2.1 hW.1 o 3 (pW_get (cA := cA) (ad := ad) (I := I) (J := J) (R := R) hs) rfl hin hd (kk dC dI ad base cA p e Rm s m args below meth c n0 z0 Z hC hr H locs cells slots ls hW h1 h2 hL)
theorem pE_laload {o n : Nat} {i : Int32} (hd : decode md.2.1 pc = .ok (.laload, 1)) (hs : K[o]? = some (.inr (1, n))) (hin : vp_in i n) (kk : pE l X md d K1 (pc + 1) lc (.long (J o i.toNatClampNeg) :: st) K I J R Q) : pE l X md d K1 pc lc (.int i :: .ref o :: st) K I J R Q := by
  intro dC dI ad base cA p e Rm s m args below meth c n0 z0 Z hC hr H locs cells slots ls hW h1 h2 hL
  exact va_lald hC.1.1 hC.1.2.1 hC.2.1.2.1 hW.1 o 1 (pW_get (cA := cA) (ad := ad) (I := I) (J := J) (R := R) hs) rfl hin hd (kk dC dI ad base cA p e Rm s m args below meth c n0 z0 Z hC hr H locs cells slots ls hW h1 h2 hL)
/-- the script's own cells -/
theorem pE_sload {i : Int32} (hd : decode md.2.1 pc = .ok (.iaload, 1)) (hin : vp_in i X.1) (kk : pE l X md d K1 (pc + 1) lc (.int (X.2 i.toNatClampNeg) :: st) K I J R Q) : pE l X md d K1 pc lc (.int i :: .ref 2000000 :: st) K I J R Q := by
  intro dC dI ad base cA p e Rm s m args below meth c n0 z0 Z hC hr H locs cells slots ls hW h1 h2 hL
  have hSt := hC.2.1.2.2.1
  exact va_sld hC.1.1 hC.1.2.1 hSt.2.2.2.1 (Nat.lt_of_lt_of_le hSt.2.2.2.2 (by have := hC.2.1.2.2.2.1; omega)) (Nat.not_le.mpr hSt.2.2.2.2) hW.2.2.1 hin hd (kk dC dI ad base cA p e Rm s m args below meth c n0 z0 Z hC hr H locs cells slots ls hW h1 h2 hL)
theorem pE_slen (hd : decode md.2.1 pc = .ok (.arraylength, 1)) (kk : pE l X md d K1 (pc + 1) lc (.int (nI X.1) :: st) K I J R Q) : pE l X md d K1 pc lc (.ref 2000000 :: st) K I J R Q := by
  intro dC dI ad base cA p e Rm s m args below meth c n0 z0 Z hC hr H locs cells slots ls hW h1 h2 hL
  have hSt := hC.2.1.2.2.1
  exact va_slen hC.1.1 hC.1.2.1 hSt.2.2.2.1 (Nat.lt_of_lt_of_le hSt.2.2.2.2 (by have := hC.2.1.2.2.2.1; omega)) (Nat.not_le.mpr hSt.2.2.2.2) hW.2.2.1 hd (kk dC dI ad base cA p e Rm s m args below meth c n0 z0 Z hC hr H locs cells slots ls hW h1 h2 hL)
theorem pE_alen {o t n : Nat} {v : Int32} (hd : decode md.2.1 pc = .ok (.arraylength, 1)) (hs : K[o]? = some (.inr (t, n))) (ht : t < 4) (hv : Int32.ofNat n = v) (kk : pE l X md d K1 (pc + 1) lc (.int v :: st) K I J R Q) : pE l X md d K1 pc lc (.ref o :: st) K I J R Q := by
  intro dC dI ad base cA p e Rm s m args below meth c n0 z0 Z hC hr H locs cells slots ls hW h1 h2 hL
  have hT : ∃ ty, (pTy cA)[t]? = some (cA t, ty) := by
    match t, ht with
    | 0, _ => exact ⟨_, rfl⟩
    | 1, _ => exact ⟨_, rfl⟩
    | 2, _ => exact ⟨_, rfl⟩
    | 3, _ => exact ⟨_, rfl⟩
  obtain ⟨ty, hty⟩ := hT
  exact va_alen hC.1.1 hC.1.2.1 hC.2.1.2.1 hW.1 o t (pW_get (cA := cA) (ad := ad) (I := I) (J := J) (R := R) hs) hty hv hd (kk dC dI ad base cA p e Rm s m args below meth c n0 z0 Z hC hr H locs cells slots ls hW h1 h2 hL)
end PE
