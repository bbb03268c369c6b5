section PE3
variable {l : Launch} {X : pX} {md : pMd} {d : Nat} {K1 : List pS} {pc : Nat} {lc : pLc} {st : List Value} {K : List pS} {I : pHI} {J : pHJ} {R : pHR} {Q : pQ}
theorem pE_callS {index n d' : Nat} {y : MethodName} {mc : pMd} {as : List Value} {K' : List pS} {stk : List Value} (hd : decode md.2.1 pc = .ok (.invokestatic index, 3)) (hlk : pLk md.1 index y) (hcw : pCw md.1 index y mc n) (hsv : Cond.static y ∈ pTb) (hn : as.length = n) (hstk : stk = as.reverse ++ st) (hst : (st.map fun v => v.category).sum ≤ 8) (hdd : d' + 1 ≤ d) (hK : K.length ≤ K'.length ∧ K'.length ≤ K1.length ∧ pSz K ≤ pSz K' ∧ pSz K' ≤ pSz K1 ∧ K'.length ≤ 1000)
    (hM : pM l X y mc d' as K K' I J R (pNx l X md d K1 (pc + 3) lc st K' Q)) : pE l X md d K1 pc lc stk K I J R Q := by
  intro dC dI ad base cA p e Rm s m args below meth c n0 z0 Z hC hr H locs cells slots ls hW h1 h2 hL
  subst hstk
  refine pW_size hC.2.1.2.2.2.1 hC.2.1.2.2.2.2 hW h1 (fun hsz => ?_)
  obtain ⟨hx, hb, hml, hret, hlk2, hown, hin⟩ := hC.1
  obtain ⟨hts, hKn, hSt, hbs, had⟩ := hC.2.1
  obtain ⟨hr1, hr2, hr3, hr4⟩ := hC.2.2
  obtain ⟨w1, w2, w3, w4, w5, w6⟩ := hcw
  have hlen : ∀ sig, parseMethodDescriptor y.desc = some sig → n = sig.parameters.length := fun sig h => by
    rw [h] at w5
    exact (Option.some.inj w5).symm
  have hpre : PreS s H (pPre X dC dI ad base cA as K I J R) (as.map (trv ad)) := ⟨pBlind, fun U hU hWm => pPcAt hKn hSt had hW hsz U hU hWm⟩
  have hsk : (F0 m pc ls ((as.reverse ++ st).map (trv ad))).stack = (as.map (trv ad)).reverse ++ st.map (trv ad) := by
    simp [List.map_append, List.map_reverse]
  have hroom : 2 * (F0 m pc ls ((as.reverse ++ st).map (trv ad))).monitorRoom + ((st.map (trv ad)).map fun v => v.category).sum ≤ 8 := lv_room (by rw [pCat]; exact hst)
  have hlc : (pRm d' K K').frames + 1 ≤ Rm.frames ∧ 8 + (mc.2.2.1 + 11) + (pRm d' K K').locals ≤ Rm.locals := by
    refine ⟨?_, ?_⟩
    · show d' + 1 ≤ Rm.frames
      omega
    · show 8 + (mc.2.2.1 + 11) + 40 * d' ≤ Rm.locals
      omega
  have hfit : cells + (K'.length - K.length) ≤ Rm.cells ∧ slots + (pSz K' - pSz K) ≤ Rm.slots := by omega
  have hrun : va_Run p l e Rm s m args below meth c H locs cells slots (K'.length - K.length) (pSz K' - pSz K) (F0 m pc ls ((as.reverse ++ st).map (trv ad))) (st.map (trv ad)) (pPost dC dI ad base cA K' (pNx l X md d K1 (pc + 3) lc st K' Q) (as.map (trv ad)).toArray) (pG base) := by
    rcases hlk with hlk | ⟨host, hlk⟩
    · exact va_runS ⟨hx, hb, hml, hown, hts⟩ (hM dC dI ad base cA) ⟨⟨rfl, rfl, hlc.1, hlc.2, pPay hts w2, List.mem_cons_self, hts _ w2, hts _ w1, ⟨w3, w4⟩, hlen, hts _ hlk⟩, hts _ hsv⟩ hpre rfl (by rw [List.length_map]; exact hn) hL.1.1 hsk hroom hd hfit
    · exact va_runSN ⟨hx, hb, hml, hown, hts⟩ (hM dC dI ad base cA) ⟨⟨⟨rfl, rfl, hlc.1, hlc.2, pPay hts w2, List.mem_cons_self⟩, hts _ w2, hts _ w1, ⟨w3, w4⟩, hlen, pNb_on hlk (hSt.2.2.1.2 _ hlk)⟩, hts _ hsv, trivial⟩ hpre rfl (by rw [List.length_map]; exact hn) hL.1.1 hsk hroom hd hfit
  refine pBack hrun hW.2.2.1 (fun rv I' J' R' H1 locs1 hq hrv a1 a2 a3 => ?_)
  have e1 : rv.toList ++ st.map (trv ad) = (rv.toList ++ st).map (trv ad) := by
    rcases hrv with rfl | ⟨x, rfl⟩ | ⟨x, rfl⟩ <;> rfl
  rw [e1]
  exact pNx_at hq dC dI ad base cA p e Rm s m args below meth c n0 z0 Z hC hr H1 locs1 _ _ ls ⟨a1, a2, a3, hK.2.2.2.2⟩ (by omega) (by omega) hL
theorem pE_callI {index n o d' : Nat} {y : MethodName} {mc : pMd} {as : List Value} {K' : List pS} {stk : List Value} (hd : decode md.2.1 pc = .ok (.invokespecial index, 3)) (hlk : pLk md.1 index y) (hcw : pCw md.1 index y mc n) (hiv : Cond.instanceMethod y ∈ pTb) (hnm : y.name = "<init>") (hrn : mc.2.2.2.1 = none) (hn : as.length = n) (hstk : stk = as.reverse ++ .ref o :: st) (hst : (st.map fun v => v.category).sum ≤ 8) (hdd : d' + 1 ≤ d) (hK : K.length ≤ K'.length ∧ K'.length ≤ K1.length ∧ pSz K ≤ pSz K' ∧ pSz K' ≤ pSz K1 ∧ K'.length ≤ 1000)
    (hM : pM l X y mc d' (.ref o :: as) K K' I J R (pNx l X md d K1 (pc + 3) lc st K' Q)) : pE l X md d K1 pc lc stk K I J R Q := by
  intro dC dI ad base cA p e Rm s m args below meth c n0 z0 Z hC hr H locs cells slots ls hW h1 h2 hL
  subst hstk
  refine pW_size hC.2.1.2.2.2.1 hC.2.1.2.2.2.2 hW h1 (fun hsz => ?_)
  obtain ⟨hx, hb, hml, hret, hlk2, hown, hin⟩ := hC.1
  obtain ⟨hts, hKn, hSt, hbs, had⟩ := hC.2.1
  obtain ⟨hr1, hr2, hr3, hr4⟩ := hC.2.2
  obtain ⟨w1, w2, w3, w4, w5, w6⟩ := hcw
  have hlen : ∀ sig, parseMethodDescriptor y.desc = some sig → n = sig.parameters.length := fun sig h => by
    rw [h] at w5
    exact (Option.some.inj w5).symm
  have hpre : PreS s H (pPre X dC dI ad base cA (.ref o :: as) K I J R) (.ref (ad o) :: as.map (trv ad)) := ⟨pBlind, fun U hU hWm => pPcAt (as := .ref o :: as) hKn hSt had hW hsz U hU hWm⟩
  have w2' := w2
  rw [hrn] at w2'
  have hcn : Cond.code y mc.2.1 mc.2.2.1 none ∈ pWs y mc := List.mem_cons_of_mem _ w2'
  have hsk : (F0 m pc ls ((as.reverse ++ Value.ref o :: st).map (trv ad))).stack = (as.map (trv ad)).reverse ++ .ref (ad o) :: st.map (trv ad) := by
    simp [List.map_append, List.map_reverse, trv]
  have hroom : 2 * (F0 m pc ls ((as.reverse ++ Value.ref o :: st).map (trv ad))).monitorRoom + ((st.map (trv ad)).map fun v => v.category).sum ≤ 8 := lv_room (by rw [pCat]; exact hst)
  have hlc : (pRm d' K K').frames + 1 ≤ Rm.frames ∧ 8 + (mc.2.2.1 + 11) + (pRm d' K K').locals ≤ Rm.locals := by
    refine ⟨?_, ?_⟩
    · show d' + 1 ≤ Rm.frames
      omega
    · show 8 + (mc.2.2.1 + 11) + 40 * d' ≤ Rm.locals
      omega
  have hfit : cells + (K'.length - K.length) ≤ Rm.cells ∧ slots + (pSz K' - pSz K) ≤ Rm.slots := by omega
  have hrun : va_Run p l e Rm s m args below meth c H locs cells slots (K'.length - K.length) (pSz K' - pSz K) (F0 m pc ls ((as.reverse ++ Value.ref o :: st).map (trv ad))) (st.map (trv ad)) (pPost dC dI ad base cA K' (pNx l X md d K1 (pc + 3) lc st K' Q) (Value.ref (ad o) :: as.map (trv ad)).toArray) (pG base) := by
    rcases hlk with hlk | ⟨host, hlk⟩
    · exact va_runI ⟨hx, hb, hml, hown, hts⟩ (hM dC dI ad base cA) ⟨⟨rfl, rfl, hlc.1, hlc.2, pPay hts w2, hcn, hts _ w2', hts _ w1, ⟨w3, w4⟩, hlen, hts _ hlk⟩, hnm, hts _ hiv⟩ hpre rfl (by rw [List.length_map]; exact hn) hL.1.1 hsk hroom hd hfit
    · exact va_runIN ⟨hx, hb, hml, hown, hts⟩ (hM dC dI ad base cA) ⟨⟨⟨rfl, rfl, hlc.1, hlc.2, pPay hts w2, hcn⟩, hts _ w2', hts _ w1, ⟨w3, w4⟩, hlen, pNb_on hlk (hSt.2.2.1.2 _ hlk)⟩, hnm, hts _ hiv⟩ hpre rfl (by rw [List.length_map]; exact hn) hL.1.1 hsk hroom hd hfit
  refine pBack hrun hW.2.2.1 (fun rv I' J' R' H1 locs1 hq hrv a1 a2 a3 => ?_)
  have e1 : rv.toList ++ st.map (trv ad) = (rv.toList ++ st).map (trv ad) := by
    rcases hrv with rfl | ⟨x, rfl⟩ | ⟨x, rfl⟩ <;> rfl
  rw [e1]
  exact pNx_at hq dC dI ad base cA p e Rm s m args below meth c n0 z0 Z hC hr H1 locs1 _ _ ls ⟨a1, a2, a3, hK.2.2.2.2⟩ (by omega) (by omega) hL
/-- Object.<init> -/
theorem pE_objInit {index o : Nat} (hd : decode md.2.1 pc = .ok (.invokespecial index, 3)) (hl : Cond.methodLink md.1 index Lib.objectInit ∈ pTb) (hi : Cond.instanceMethod Lib.objectInit ∈ pTb) (hc : Cond.code Lib.objectInit ⟨#[0xb1]⟩ 1 none ∈ pTb) (hdd : 1 ≤ d) (hst : (st.map fun v => v.category).sum ≤ 8) (kk : pE l X md d K1 (pc + 3) lc st K I J R Q) : pE l X md d K1 pc lc (.ref o :: st) K I J R Q := by
  intro dC dI ad base cA p e Rm s m args below meth c n0 z0 Z hC hr H locs cells slots ls hW h1 h2 hL
  have hts := hC.2.1.1
  have hr1 := hC.2.2.1
  have hr2 := hC.2.2.2.1
  have hroom : 2 * (F0 m pc ls ((Value.ref o :: st).map (trv ad))).monitorRoom + ((st.map (trv ad)).map fun v => v.category).sum ≤ 8 := lv_room (by rw [pCat]; exact hst)
  exact W.objInit hC.1.1 hC.1.2.1 hC.1.2.2.2.2.2.1 (hts _ hl) (hts _ hi) (hts _ hc) rfl (by rw [hC.1.2.2.1]; exact hL.1.1) (a := ad o) (rest := st.map (trv ad)) rfl hd (by omega) (by omega) (kk dC dI ad base cA p e Rm s m args below meth c n0 z0 Z hC hr H locs cells slots ls hW h1 h2 hL)
/-- Math.max, Math.min: their words -/
def pMx (own : String) (index : Nat) : Prop := Cond.methodLink own index Lib.Math.max.name ∈ pTb ∧ Cond.static Lib.Math.max.name ∈ pTb ∧ Cond.initialized "java/lang/Math" ∈ pTb ∧ Cond.code Lib.Math.max.name Lib.Math.max.code 2 (some .int) ∈ pTb
def pMn (own : String) (index : Nat) : Prop := Cond.methodLink own index Lib.Math.min.name ∈ pTb ∧ Cond.static Lib.Math.min.name ∈ pTb ∧ Cond.initialized "java/lang/Math" ∈ pTb ∧ Cond.code Lib.Math.min.name Lib.Math.min.code 2 (some .int) ∈ pTb
theorem pE_max {index : Nat} {x y : Int32} (hd : decode md.2.1 pc = .ok (.invokestatic index, 3)) (hm : pMx md.1 index) (hdd : 1 ≤ d) (hst : (st.map fun v => v.category).sum ≤ 8) (kk : pE l X md d K (pc + 3) lc (.int (if x < y then y else x) :: st) K I J R Q) : pE l X md d K pc lc (.int y :: .int x :: st) K I J R Q := by
  intro dC dI ad base cA p e Rm s m args below meth c n0 z0 Z hC hr H locs cells slots ls hW h1 h2 hL
  have hts := hC.2.1.1
  have hr1 := hC.2.2.1
  have hr2 := hC.2.2.2.1
  have hr3 := hC.2.2.2.2.1
  have hr4 := hC.2.2.2.2.2
  have hca : ((st.map (trv ad)).map fun v => v.category).sum ≤ 8 := by rw [pCat]; exact hst
  exact va_mmax hC.1.1 hC.1.2.1 (by rw [hC.1.2.2.1]; exact hL.1.1.symm) hC.1.2.2.2.2.2.1 (hts _ hm.1) (hts _ hm.2.1) (hts _ hm.2.2.1) (hts _ hm.2.2.2) (by omega) (by omega) (by omega) (by omega) hd (kk dC dI ad base cA p e Rm s m args below meth c n0 z0 Z hC hr H locs cells slots ls hW h1 h2 hL)
theorem pE_min {index : Nat} {x y : Int32} (hd : decode md.2.1 pc = .ok (.invokestatic index, 3)) (hm : pMn md.1 index) (hdd : 1 ≤ d) (hst : (st.map fun v => v.category).sum ≤ 8) (kk : pE l X md d K (pc + 3) lc (.int (if y < x then y else x) :: st) K I J R Q) : pE l X md d K pc lc (.int y :: .int x :: st) K I J R Q := by
  intro dC dI ad base cA p e Rm s m args below meth c n0 z0 Z hC hr H locs cells slots ls hW h1 h2 hL
  have hts := hC.2.1.1
  have hr1 := hC.2.2.1
  have hr2 := hC.2.2.2.1
  have hr3 := hC.2.2.2.2.1
  have hr4 := hC.2.2.2.2.2
  have hca : ((st.map (trv ad)).map fun v => v.category).sum ≤ 8 := by rw [pCat]; exact hst
  exact va_mmin hC.1.1 hC.1.2.1 (by rw [hC.1.2.2.1]; exact hL.1.1.symm) hC.1.2.2.2.2.2.1 (hts _ hm.1) (hts _ hm.2.1) (hts _ hm.2.2.1) (hts _ hm.2.2.2) (by omega) (by omega) (by omega) (by omega) hd (kk dC dI ad base cA p e Rm s m args below meth c n0 z0 Z hC hr H locs cells slots ls hW h1 h2 hL)
/-- System.arraycopy of ints, from one array to another or itself -/
def pAc (own : String) (index : Nat) : Prop := Cond.methodLink own index arraycopyName ∈ pTb ∧ Cond.native arraycopyName ∈ pTb ∧ Cond.static arraycopyName ∈ pTb ∧ Cond.initialized "java/lang/System" ∈ pTb
theorem pE_acopy {index o0 o1 n0' n1' : Nat} {sp dp n : Int32} (hd : decode md.2.1 pc = .ok (.invokestatic index, 3)) (hm : pAc md.1 index) (hs0 : K[o0]? = some (.inr (0, n0'))) (hs1 : K[o1]? = some (.inr (0, n1'))) (g1 : ¬ sp < 0) (g2 : ¬ dp < 0) (g3 : ¬ n < 0) (g4 : sp.toNatClampNeg + n.toNatClampNeg ≤ n0') (g5 : dp.toNatClampNeg + n.toNatClampNeg ≤ n1') (hdd : 1 ≤ d) (hst : (st.map fun v => v.category).sum ≤ 8)
    (kk : pE l X md d K1 (pc + 3) lc st K (pz I o1 (va_cpy (I o0) (I o1) sp.toNatClampNeg dp.toNatClampNeg n.toNatClampNeg)) J R Q) : pE l X md d K1 pc lc (.int n :: .int dp :: .ref o1 :: .int sp :: .ref o0 :: st) K I J R Q := by
  intro dC dI ad base cA p e Rm s m args below meth c n0 z0 Z hC hr H locs cells slots ls hW h1 h2 hL
  have hts := hC.2.1.1
  have hr1 := hC.2.2.1
  have hr2 := hC.2.2.2.1
  have hca : ((st.map (trv ad)).map fun v => v.category).sum ≤ 8 := by rw [pCat]; exact hst
  have hnw : nativeFrameWords "java/lang/System" "arraycopy" 5 = 7 := by decide +kernel
  refine va_copyi hC.1.1 hC.1.2.1 (by rw [hC.1.2.2.1]; exact hL.1.1.symm) hC.1.2.2.2.2.2.1 (hts _ hm.1) (hts _ hm.2.1) (hts _ hm.2.2.1) (hts _ hm.2.2.2) hC.2.1.2.1 hW.1 hW.2.1 hW.2.2.1 o0 o1 0 0 (pW_get (cA := cA) (ad := ad) (I := I) (J := J) (R := R) hs0) (pW_get (cA := cA) (ad := ad) (I := I) (J := J) (R := R) hs1) rfl rfl rfl g1 g2 g3 g4 g5 (fun _ _ => rfl) (by omega) (by rw [hnw]; omega) hd (fun H1 locs1 a1 a2 a3 => ?_)
  have hse := pW_setZ (cA := cA) (ad := ad) (I := I) (J := J) (R := R) (g := va_cpy (I o0) (I o1) sp.toNatClampNeg dp.toNatClampNeg n.toNatClampNeg) hs1 (by decide)
  have a1' : va_P (dC, dI) vwCl ((pW cA ad K I J R).set o1 (ad o1, .inl (cA 0, n1', .inl (va_cpy (I o0) (I o1) sp.toNatClampNeg dp.toNatClampNeg n.toNatClampNeg)))) H1 := a1
  have a2' : va_D (pG base) ((pW cA ad K I J R).set o1 (ad o1, .inl (cA 0, n1', .inl (va_cpy (I o0) (I o1) sp.toNatClampNeg dp.toNatClampNeg n.toNatClampNeg)))) := a2
  rw [hse] at a1' a2'
  exact kk dC dI ad base cA p e Rm s m args below meth c n0 z0 Z hC hr H1 locs1 cells slots ls ⟨a1', a2', a3, hW.2.2.2⟩ h1 h2 hL
theorem pSz_push (K : List pS) (sh : pS) : pSz (K ++ [sh]) = pSz K + pSz1 sh := by simp [pSz]
/-- a new object: its fields are zero and null -/
theorem pE_new {index ci : Nat} {ty0 : Nat → FieldType} (hd : decode md.2.1 pc = .ok (.new index, 3)) (ht : pFt ci ty0) (hw : ∃ r : vw_C, vwCl[ci]? = some r ∧ (∀ w ∈ u_ws r.1 r.2.1 r.2.2, w ∈ pTb) ∧ Cond.classLink md.1 index r.1 ∈ pTb ∧ Cond.instantiable r.1 r.2.2 ∈ pTb ∧ Cond.initialized r.1 ∈ pTb ∧ (∀ j, j < r.2.2 → ∀ ad : Nat → Nat, ∀ o : Nat, defaultValue (ty0 j) = vp_V (pFs ad (fun _ _ => 0) (fun _ _ => 0) (fun _ _ => none) o ci) j))
    (hK : K.length + 1 ≤ K1.length ∧ pSz K + (pk ci).length ≤ pSz K1 ∧ K.length + 1 ≤ 1000) (kk : pE l X md d K1 (pc + 3) lc (.ref K.length :: st) (K ++ [.inl ci]) (pz I K.length (fun _ => 0)) (pz J K.length (fun _ => 0)) (pz R K.length (fun _ => none)) Q) : pE l X md d K1 pc lc st K I J R Q := by
  intro dC dI ad base cA p e Rm s m args below meth c n0 z0 Z hC hr H locs cells slots ls hW h1 h2 hL
  refine pW_size hC.2.1.2.2.2.1 hC.2.1.2.2.2.2 hW h1 (fun hsz => ?_)
  obtain ⟨hx, hb, hml, hret, hlk2, hown, hin0⟩ := hC.1
  obtain ⟨hts, hKn, hSt, hbs, had⟩ := hC.2.1
  obtain ⟨hr1, hr2, hr3, hr4⟩ := hC.2.2
  obtain ⟨hP, hD, hS, hk1000⟩ := hW
  obtain ⟨⟨C, T, N⟩, hc, hin, hcl, hinst, hini, hdf⟩ := hw
  obtain ⟨r2, hc2, hty, hnm, hlen⟩ := ht
  cases hc.symm.trans hc2
  have hlen' : (pk ci).length = N := hlen
  have hKc := hKn.1 ci _ hc
  have hfc := hKc.2.1
  refine W.newcK hx hb hown (hts _ hcl) (hts _ hinst) (hts _ hini) rfl hd (by omega) (by omega) hfc rfl (fun H1 kC hkC e1 z1 o1 => ?_)
  have hk : ∀ (k : Nat) (x : Nat × va_E), (pW cA ad K I J R)[k]? = some x → H1[x.1]? = H[x.1]? := fun k x hx => o1 x.1 ((hP k x hx).lt)
  have hadK : ad K.length = H.size := by rw [had _ (by omega), hsz]
  have hpush := pW_push (cA := cA) (ad := ad) (K := K) (I := I) (I' := pz I K.length (fun _ => 0)) (J := J) (J' := pz J K.length (fun _ => 0)) (R := R) (R' := pz R K.length (fun _ => none)) (sh := .inl ci) (fun j hj => (pz_ne _ _ hj).symm) (fun j hj => (pz_ne _ _ hj).symm) (fun j hj => (pz_ne _ _ hj).symm) rfl
  have hcell : va_at (dC, dI) vwCl (ad K.length, pCe cA ad (pz I K.length (fun _ => 0)) (pz J K.length (fun _ => 0)) (pz R K.length (fun _ => none)) K.length (.inl ci)) H1 := by
    refine ⟨_, hc, ?_⟩
    rw [hadK]
    refine (u_born ty0 hts hin hKc hkC e1 hty).to (fun j hj => ?_)
    have := hdf j hj ad K.length
    rw [this]
    congr 1
    exact pFs_cg (by rw [pz_eq]) (by rw [pz_eq]) (by rw [pz_eq])
  have hP1 : va_P (dC, dI) vwCl (pW cA ad (K ++ [.inl ci]) (pz I K.length (fun _ => 0)) (pz J K.length (fun _ => 0)) (pz R K.length (fun _ => none))) H1 := by
    rw [← hpush]
    refine (hP.kept hk).app (fun k x hx => ?_)
    have hz : k < 1 := (List.getElem?_eq_some_iff.mp hx).1
    rw [show k = 0 by omega] at hx
    cases hx
    exact hcell
  have hD1 : va_D (pG base) (pW cA ad (K ++ [.inl ci]) (pz I K.length (fun _ => 0)) (pz J K.length (fun _ => 0)) (pz R K.length (fun _ => none))) := by
    rw [← hpush]
    exact hD.push hP hadK (by rw [hadK, hsz]; exact Nat.le_add_right _ _)
  have go := kk dC dI ad base cA p e Rm s m args below meth c n0 z0 Z hC hr H1 locs (cells + 1) (slots + N) ls ⟨hP1, hD1, ⟨Nat.le_trans hS.1 (by omega), fun x g1 g2 => (o1 x (Nat.lt_of_lt_of_le g1 hS.1)).trans (hS.2.1 x g1 g2), hS.2.2⟩, by rw [List.length_append]; exact hK.2.2⟩ (by rw [List.length_append, List.length_singleton]; omega) (by rw [pSz_push]; show slots + N + z0 = pSz K + (pk ci).length; omega) hL
  rw [← hadK]
  exact go
/-- a new array of ints (kind 0), bytes (2), booleans (3) -/
theorem pE_newA {t n : Nat} {x : Int32} {at_ : ArrayType} (hd : decode md.2.1 pc = .ok (.newarray at_, 2)) (hat : (t = 0 ∧ at_ = .int) ∨ (t = 2 ∧ at_ = .byte) ∨ (t = 3 ∧ at_ = .boolean)) (hw : Cond.arrayClass (newarray.typeOf at_) ∈ pTb) (hx : ¬ x < 0) (hn : x.toNatClampNeg = n) (hbig : n ≤ 100000)
    (hK : K.length + 1 ≤ K1.length ∧ pSz K + n ≤ pSz K1 ∧ K.length + 1 ≤ 1000) (kk : pE l X md d K1 (pc + 2) lc (.ref K.length :: st) (K ++ [.inr (t, n)]) (pz I K.length (fun _ => 0)) J R Q) : pE l X md d K1 pc lc (.int x :: st) K I J R Q := by
  intro dC dI ad base cA p e Rm s m args below meth c n0 z0 Z hC hr H locs cells slots ls hW h1 h2 hL
  refine pW_size hC.2.1.2.2.2.1 hC.2.1.2.2.2.2 hW h1 (fun hsz => ?_)
  obtain ⟨hx0, hb, hml, hret, hlk2, hown, hin0⟩ := hC.1
  obtain ⟨hts, hKn, hSt, hbs, had⟩ := hC.2.1
  obtain ⟨hr1, hr2, hr3, hr4⟩ := hC.2.2
  obtain ⟨hP, hD, hS, hk1000⟩ := hW
  have hadK : ad K.length = H.size := by rw [had _ (by omega), hsz]
  have hcb : componentBytes (newarray.typeOf at_) ≤ 4 := by rcases hat with ⟨-, rfl⟩ | ⟨-, rfl⟩ | ⟨-, rfl⟩ <;> decide
  refine va_newaK hx0 hb (hts _ hw) rfl hd rfl hx hn (Nat.le_trans (Nat.mul_le_mul hbig hcb) (by decide)) (by omega) (by omega) rfl (fun H1 cB e1 z1 o1 hAr hNm => ?_)
  have hcB : cB = cA t := by
    rcases hat with ⟨rfl, rfl⟩ | ⟨rfl, rfl⟩ | ⟨rfl, rfl⟩
    · exact Option.some.inj (hNm.symm.trans (hKn.2 0 _ rfl).2)
    · exact Option.some.inj (hNm.symm.trans (hKn.2 2 _ rfl).2)
    · exact Option.some.inj (hNm.symm.trans (hKn.2 3 _ rfl).2)
  have ht1 : t ≠ 1 := by rcases hat with ⟨rfl, -⟩ | ⟨rfl, -⟩ | ⟨rfl, -⟩ <;> decide
  have hk : ∀ (k : Nat) (x : Nat × va_E), (pW cA ad K I J R)[k]? = some x → H1[x.1]? = H[x.1]? := fun k x hx => o1 x.1 ((hP k x hx).lt)
  have hpush := pW_push (cA := cA) (ad := ad) (K := K) (I := I) (I' := pz I K.length (fun _ => 0)) (J := J) (J' := J) (R := R) (R' := R) (sh := .inr (t, n)) (fun j hj => (pz_ne _ _ hj).symm) (fun j hj => rfl) (fun j hj => rfl) rfl
  have hdv : defaultValue (newarray.typeOf at_) = .int 0 := by rcases hat with ⟨-, rfl⟩ | ⟨-, rfl⟩ | ⟨-, rfl⟩ <;> rfl
  have hcell : va_at (dC, dI) vwCl (ad K.length, pCe cA ad (pz I K.length (fun _ => 0)) J R K.length (.inr (t, n))) H1 := by
    simp only [pCe, if_neg ht1, pz_eq]
    show H1[ad K.length]? = some (vp_cell _ _)
    rw [hadK, e1, hdv, hcB]
    rfl
  have hP1 : va_P (dC, dI) vwCl (pW cA ad (K ++ [.inr (t, n)]) (pz I K.length (fun _ => 0)) J R) H1 := by
    rw [← hpush]
    refine (hP.kept hk).app (fun k x hx => ?_)
    have hz : k < 1 := (List.getElem?_eq_some_iff.mp hx).1
    rw [show k = 0 by omega] at hx
    cases hx
    exact hcell
  have hD1 : va_D (pG base) (pW cA ad (K ++ [.inr (t, n)]) (pz I K.length (fun _ => 0)) J R) := by
    rw [← hpush]
    exact hD.push hP hadK (by rw [hadK, hsz]; exact Nat.le_add_right _ _)
  have go := kk dC dI ad base cA p e Rm s m args below meth c n0 z0 Z hC hr H1 locs (cells + 1) (slots + n) ls ⟨hP1, hD1, ⟨Nat.le_trans hS.1 (by omega), fun x g1 g2 => (o1 x (Nat.lt_of_lt_of_le g1 hS.1)).trans (hS.2.1 x g1 g2), hS.2.2⟩, by rw [List.length_append]; exact hK.2.2⟩ (by rw [List.length_append, List.length_singleton]; omega) (by rw [pSz_push]; show slots + n + z0 = pSz K + n; omega) hL
  rw [← hadK]
  exact go
/-- a new array of longs -/
theorem pE_newL {n : Nat} {x : Int32} (hd : decode md.2.1 pc = .ok (.newarray .long, 2)) (hw : Cond.arrayClass .long ∈ pTb) (hx : ¬ x < 0) (hn : x.toNatClampNeg = n) (hbig : n ≤ 100000)
    (hK : K.length + 1 ≤ K1.length ∧ pSz K + n ≤ pSz K1 ∧ K.length + 1 ≤ 1000) (kk : pE l X md d K1 (pc + 2) lc (.ref K.length :: st) (K ++ [.inr (1, n)]) I (pz J K.length (fun _ => 0)) R Q) : pE l X md d K1 pc lc (.int x :: st) K I J R Q := by
  intro dC dI ad base cA p e Rm s m args below meth c n0 z0 Z hC hr H locs cells slots ls hW h1 h2 hL
  refine pW_size hC.2.1.2.2.2.1 hC.2.1.2.2.2.2 hW h1 (fun hsz => ?_)
  obtain ⟨hx0, hb, hml, hret, hlk2, hown, hin0⟩ := hC.1
  obtain ⟨hts, hKn, hSt, hbs, had⟩ := hC.2.1
  obtain ⟨hr1, hr2, hr3, hr4⟩ := hC.2.2
  obtain ⟨hP, hD, hS, hk1000⟩ := hW
  have hadK : ad K.length = H.size := by rw [had _ (by omega), hsz]
  have hcb : componentBytes (newarray.typeOf .long) ≤ 8 := by decide
  refine va_newaK (atype := .long) hx0 hb (hts _ hw) rfl hd rfl hx hn (Nat.le_trans (Nat.mul_le_mul hbig hcb) (by decide)) (by omega) (by omega) rfl (fun H1 cB e1 z1 o1 hAr hNm => ?_)
  have hcB : cB = cA 1 := Option.some.inj (hNm.symm.trans (hKn.2 1 _ rfl).2)
  have hk : ∀ (k : Nat) (x : Nat × va_E), (pW cA ad K I J R)[k]? = some x → H1[x.1]? = H[x.1]? := fun k x hx => o1 x.1 ((hP k x hx).lt)
  have hpush := pW_push (cA := cA) (ad := ad) (K := K) (I := I) (I' := I) (J := J) (J' := pz J K.length (fun _ => 0)) (R := R) (R' := R) (sh := .inr (1, n)) (fun j hj => rfl) (fun j hj => (pz_ne _ _ hj).symm) (fun j hj => rfl) rfl
  have hcell : va_at (dC, dI) vwCl (ad K.length, pCe cA ad I (pz J K.length (fun _ => 0)) R K.length (.inr (1, n))) H1 := by
    simp only [pCe, if_pos, pz_eq]
    show H1[ad K.length]? = some (vp_cell _ _)
    rw [hadK, e1, hcB]
    rfl
  have hP1 : va_P (dC, dI) vwCl (pW cA ad (K ++ [.inr (1, n)]) I (pz J K.length (fun _ => 0)) R) H1 := by
    rw [← hpush]
    refine (hP.kept hk).app (fun k x hx => ?_)
    have hz : k < 1 := (List.getElem?_eq_some_iff.mp hx).1
    rw [show k = 0 by omega] at hx
    cases hx
    exact hcell
  have hD1 : va_D (pG base) (pW cA ad (K ++ [.inr (1, n)]) I (pz J K.length (fun _ => 0)) R) := by
    rw [← hpush]
    exact hD.push hP hadK (by rw [hadK, hsz]; exact Nat.le_add_right _ _)
  have go := kk dC dI ad base cA p e Rm s m args below meth c n0 z0 Z hC hr H1 locs (cells + 1) (slots + n) ls ⟨hP1, hD1, ⟨Nat.le_trans hS.1 (by omega), fun x g1 g2 => (o1 x (Nat.lt_of_lt_of_le g1 hS.1)).trans (hS.2.1 x g1 g2), hS.2.2⟩, by rw [List.length_append]; exact hK.2.2⟩ (by rw [List.length_append, List.length_singleton]; omega) (by rw [pSz_push]; show slots + n + z0 = pSz K + n; omega) hL
  rw [← hadK]
  exact go
end PE3
