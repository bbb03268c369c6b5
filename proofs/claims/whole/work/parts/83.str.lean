section PES
variable {l : Launch} {X : pX} {md : pMd} {d : Nat} {K1 : List pS} {pc : Nat} {lc : pLc} {st : List Value} {K : List pS} {I : pHI} {J : pHJ} {R : pHR} {Q : pQ}
theorem pE_sval {i : Nat} (hd : decode md.2.1 pc = .ok (.getfield 9, 3)) (ho : md.1 = "java/lang/String") (hi : i < 19) (kk : pE l X md d K1 (pc + 3) lc (.ref (1000001 + 2 * i) :: st) K I J R Q) : pE l X md d K1 pc lc (.ref (1000000 + 2 * i) :: st) K I J R Q := by
  intro dC dI ad base cA p e Rm s m args below meth c n0 z0 Z hC hr H locs cells slots ls hW h1 h2 hL
  have hSt := hC.2.1.2.2.1
  exact vk_getf hC.1.1 hC.1.2.1 (hSt.1.1 i hi).2.2.1 hW.2.2.1 hC.1.2.2.2.2.2.1 (hC.2.1.1 _ (by rw [ho]; exact pT1_9 94 rfl rfl)) (fun _ h => h) hd (kk dC dI ad base cA p e Rm s m args below meth c n0 z0 Z hC hr H locs cells slots ls hW h1 h2 hL)
theorem pE_scod {i : Nat} (hd : decode md.2.1 pc = .ok (.getfield 15, 3)) (ho : md.1 = "java/lang/String") (hi : i < 19) (kk : pE l X md d K1 (pc + 3) lc (.int (nI 0) :: st) K I J R Q) : pE l X md d K1 pc lc (.ref (1000000 + 2 * i) :: st) K I J R Q := by
  intro dC dI ad base cA p e Rm s m args below meth c n0 z0 Z hC hr H locs cells slots ls hW h1 h2 hL
  have hSt := hC.2.1.2.2.1
  exact vk_getf hC.1.1 hC.1.2.1 (hSt.1.1 i hi).2.1 hW.2.2.1 hC.1.2.2.2.2.2.1 (hC.2.1.1 _ (by rw [ho]; exact pT1_9 93 rfl rfl)) (fun _ h => h) hd (kk dC dI ad base cA p e Rm s m args below meth c n0 z0 Z hC hr H locs cells slots ls hW h1 h2 hL)
theorem pE_scs (hd : decode md.2.1 pc = .ok (.getstatic 38, 3)) (ho : md.1 = "java/lang/String") (kk : pE l X md d K1 (pc + 3) lc (.int (nI 1) :: st) K I J R Q) : pE l X md d K1 pc lc st K I J R Q := by
  intro dC dI ad base cA p e Rm s m args below meth c n0 z0 Z hC hr H locs cells slots ls hW h1 h2 hL
  have hSt := hC.2.1.2.2.1
  rw [nI_1'] at kk
  exact va_gets hC.1.1 hC.1.2.1 hSt.2.2.1.1.1 hW.2.2.1 hC.1.2.2.2.2.2.1 (hC.2.1.1 _ (by rw [ho]; exact pT1_3 49 rfl rfl)) (fun _ h => h) hd (kk dC dI ad base cA p e Rm s m args below meth c n0 z0 Z hC hr H locs cells slots ls hW h1 h2 hL)
theorem pE_sfm (hd : decode md.2.1 pc = .ok (.getstatic 1053, 3)) (ho : md.1 = "java/lang/String") (k0 : pE l X md d K1 (pc + 3) lc (.null :: st) K I J R Q) (kk : pE l X md d K1 (pc + 3) lc (.ref 2000001 :: st) K I J R Q) : pE l X md d K1 pc lc st K I J R Q := by
  intro dC dI ad base cA p e Rm s m args below meth c n0 z0 Z hC hr H locs cells slots ls hW h1 h2 hL
  have hSt := hC.2.1.2.2.1
  rcases hSt.2.2.1.1.2 with hZ | hZ
  · exact va_gets hC.1.1 hC.1.2.1 hZ hW.2.2.1 hC.1.2.2.2.2.2.1 (hC.2.1.1 _ (by rw [ho]; exact pT1_3 88 rfl rfl)) (fun _ h => h) hd (k0 dC dI ad base cA p e Rm s m args below meth c n0 z0 Z hC hr H locs cells slots ls hW h1 h2 hL)
  · exact va_gets hC.1.1 hC.1.2.1 hZ hW.2.2.1 hC.1.2.2.2.2.2.1 (hC.2.1.1 _ (by rw [ho]; exact pT1_3 88 rfl rfl)) (fun _ h => h) hd (kk dC dI ad base cA p e Rm s m args below meth c n0 z0 Z hC hr H locs cells slots ls hW h1 h2 hL)
theorem sl_ok : ∀ i, i < 19 → pLen.getD i 0 ≤ 94 := by decide +kernel
def sCh (i j : Nat) : Nat := ((pByt.getD i []).getD j 0).toNatClampNeg
theorem sCh_ok : ∀ i, i < 19 → ∀ j, j < pLen.getD i 0 → ((pByt.getD i []).getD j 0 = nI (sCh i j) ∧ sCh i j < 128) := by decide +kernel
theorem pE_sbload {i j : Nat} (hd : decode md.2.1 pc = .ok (.baload, 1)) (hi : i < 19) (hj : j < pLen.getD i 0) (kk : pE l X md d K1 (pc + 1) lc (.int (nI (sCh i j)) :: st) K I J R Q) : pE l X md d K1 pc lc (.int (nI j) :: .ref (1000001 + 2 * i) :: st) K I J R Q := by
  intro dC dI ad base cA p e Rm s m args below meth c n0 z0 Z hC hr H locs cells slots ls hW h1 h2 hL
  have hSt := hC.2.1.2.2.1
  have hl := sl_ok i hi
  have e9 := (sCh_ok i hi j hj).1
  exact va_tb hC.1.1 hC.1.2.1 (hSt.1.1 i hi).2.2.2 hW.2.2.1 (i := nI j) (vp_in_nI hj (by omega)) (v := .int (nI (sCh i j))) (by
    show Value.int ((pByt.getD i []).getD (nI j).toNatClampNeg 0) = _
    rw [nI_clamp (by omega), e9]) hd (kk dC dI ad base cA p e Rm s m args below meth c n0 z0 Z hC hr H locs cells slots ls hW h1 h2 hL)
theorem pE_sblen {i : Nat} (hd : decode md.2.1 pc = .ok (.arraylength, 1)) (hi : i < 19) (kk : pE l X md d K1 (pc + 1) lc (.int (nI (pLen.getD i 0)) :: st) K I J R Q) : pE l X md d K1 pc lc (.ref (1000001 + 2 * i) :: st) K I J R Q := by
  intro dC dI ad base cA p e Rm s m args below meth c n0 z0 Z hC hr H locs cells slots ls hW h1 h2 hL
  have hSt := hC.2.1.2.2.1
  exact va_tlen hC.1.1 hC.1.2.1 (hSt.1.1 i hi).2.2.2 hW.2.2.1 (v := nI (pLen.getD i 0)) rfl hd (kk dC dI ad base cA p e Rm s m args below meth c n0 z0 Z hC hr H locs cells slots ls hW h1 h2 hL)
theorem pE_callVS {index n i d' : Nat} {y : MethodName} {mc : pMd} {as : List Value} {K' : List pS} {stk : List Value} (hd : decode md.2.1 pc = .ok (.invokevirtual index, 3)) (hlk : pLk md.1 index y) (hcw : pCw md.1 index y mc n) (hiv : Cond.instanceMethod y ∈ pTb ∧ Cond.selects y.cls y y ∈ pTb) (hcl : y.cls = "java/lang/String") (hi : i < 19) (hn : as.length = n) (hstk : stk = as.reverse ++ .ref (1000000 + 2 * i) :: st) (hst : (st.map fun v => v.category).sum ≤ 8) (hdd : d' + 1 ≤ d) (hK : K.length ≤ K'.length ∧ K'.length ≤ K1.length ∧ pSz K ≤ pSz K' ∧ pSz K' ≤ pSz K1 ∧ K'.length ≤ 1000)
    (hM : pM l X y mc d' (.ref (1000000 + 2 * i) :: as) K K' I J R (pNx l X md d K1 (pc + 3) lc st K' Q)) : pE l X md d K1 pc lc stk K I J R Q := by
  intro dC dI ad base cA p e Rm s m args below meth c n0 z0 Z hC hr H locs cells slots ls hW h1 h2 hL
  subst hstk
  refine pW_size hC.2.1.2.2.2.1 hC.2.1.2.2.2.2 hW h1 (fun hsz => ?_)
  obtain ⟨hx, hb, hml, hret, hlk2, hown, hin⟩ := hC.1
  obtain ⟨hts, hKn, hSt, hbs, had⟩ := hC.2.1
  obtain ⟨hr1, hr2, hr3, hr4⟩ := hC.2.2
  obtain ⟨w1, w2, w3, w4, w5, w6⟩ := hcw
  have hlen : ∀ sig, parseMethodDescriptor y.desc = some sig → n = sig.parameters.length := fun sig h => by
    rw [h] at w5
    exact (Option.some.inj w5).symm
  have hrecv : ∃ cell : Cell, H[ad (1000000 + 2 * i)]? = some cell ∧ cell.vm.isStatics = false ∧ s.vm.findClass y.cls = some cell.cls := by
    rw [hcl]
    exact vk_recv (adK := fun i => ad (1000000 + 2 * i)) (i := i) hSt.1 hi hW.2.2.1
  have hpre : PreV s H y.cls (ad (1000000 + 2 * i)) (pPre X dC dI ad base cA (.ref (1000000 + 2 * i) :: as) K I J R) (as.map (trv ad)) := ⟨pBlind, hrecv, fun U hU hWm => pPcAt hKn hSt had hW hsz U hU hWm⟩
  have hsk : (F0 m pc ls ((as.reverse ++ Value.ref (1000000 + 2 * i) :: st).map (trv ad))).stack = (as.map (trv ad)).reverse ++ .ref (ad (1000000 + 2 * i)) :: st.map (trv ad) := by
    simp [List.map_append, List.map_reverse, trv]
  have hroom : 2 * (F0 m pc ls ((as.reverse ++ Value.ref (1000000 + 2 * i) :: st).map (trv ad))).monitorRoom + ((st.map (trv ad)).map fun v => v.category).sum ≤ 8 := lv_room (by rw [pCat]; exact hst)
  have hlc : (pRm d' K K').frames + 1 ≤ Rm.frames ∧ 8 + (mc.2.2.1 + 11) + (pRm d' K K').locals ≤ Rm.locals := by
    refine ⟨?_, ?_⟩
    · show d' + 1 ≤ Rm.frames
      omega
    · show 8 + (mc.2.2.1 + 11) + 40 * d' ≤ Rm.locals
      omega
  have hfit : cells + (K'.length - K.length) ≤ Rm.cells ∧ slots + (pSz K' - pSz K) ≤ Rm.slots := by omega
  have hrun : va_Run p l e Rm s m args below meth c H locs cells slots (K'.length - K.length) (pSz K' - pSz K) (F0 m pc ls ((as.reverse ++ Value.ref (1000000 + 2 * i) :: st).map (trv ad))) (st.map (trv ad)) (pPost dC dI ad base cA K' (pNx l X md d K1 (pc + 3) lc st K' Q) (Value.ref (ad (1000000 + 2 * i)) :: as.map (trv ad)).toArray) (pG base) := by
    rcases hlk with hlk | ⟨host, hlk⟩
    · exact va_runV ⟨hx, hb, hml, hown, hts⟩ (hM dC dI ad base cA) (C := y.cls) ⟨⟨rfl, rfl, hlc.1, hlc.2, pPay hts w2, List.mem_cons_self, hts _ w2, hts _ w1, ⟨w3, w4⟩, hlen, hts _ hlk⟩, hts _ hiv.1, hts _ hiv.2⟩ hpre rfl (by rw [List.length_map]; exact hn) hL.1.1 hsk hroom hd hfit
    · exact va_runVN ⟨hx, hb, hml, hown, hts⟩ (hM dC dI ad base cA) (C := y.cls) ⟨⟨⟨rfl, rfl, hlc.1, hlc.2, pPay hts w2, List.mem_cons_self⟩, hts _ w2, hts _ w1, ⟨w3, w4⟩, hlen, pNb_on hlk (hSt.2.2.1.2 _ hlk)⟩, hts _ hiv.1, hts _ hiv.2⟩ hpre rfl (by rw [List.length_map]; exact hn) hL.1.1 hsk hroom hd hfit
  refine pBack hrun hW.2.2.1 (fun rv I' J' R' H1 locs1 hq hrv a1 a2 a3 => ?_)
  have e1 : rv.toList ++ st.map (trv ad) = (rv.toList ++ st).map (trv ad) := by
    rcases hrv with rfl | ⟨x, rfl⟩ | ⟨x, rfl⟩ <;> rfl
  rw [e1]
  exact pNx_at hq dC dI ad base cA p e Rm s m args below meth c n0 z0 Z hC hr H1 locs1 _ _ ls ⟨a1, a2, a3, hK.2.2.2.2⟩ (by omega) (by omega) hL
end PES
theorem shr0 {n : Nat} (h : n ≤ 94) : nI n >>> (nI 0 &&& 31) = nI n := (by decide +kernel : ∀ n, n ≤ 94 → nI n >>> (nI 0 &&& 31) = nI n) n h
theorem and_255 {n : Nat} (h : n < 256) : nI n &&& nI 255 = nI n := (by decide +kernel : ∀ n, n < 256 → nI n &&& nI 255 = nI n) n h
theorem i2c_s {n : Nat} (h : n < 256) : ((nI n).toUInt32 % 65536).toInt32 = nI n := (by decide +kernel : ∀ n, n < 256 → ((nI n).toUInt32 % 65536).toInt32 = nI n) n h
theorem nar_c {n : Nat} (h : n < 256) : narrow .char (.int (nI n)) = .int (nI n) := (by decide +kernel : ∀ n, n < 256 → narrow .char (.int (nI n)) = .int (nI n)) n h
theorem i2b_lo {n : Nat} (h : n < 128) : (nI n).toInt8.toInt32 = nI n := (by decide +kernel : ∀ n, n < 128 → (nI n).toInt8.toInt32 = nI n) n h
theorem i2b_hi {n : Nat} (h : n < 128) : (nI (n + 128)).toInt8.toInt32 < 0 := (by decide +kernel : ∀ n, n < 128 → (nI (n + 128)).toInt8.toInt32 < 0) n h
set_option maxHeartbeats 400000 in
set_option maxRecDepth 100000 in
theorem M_J0_coder_7d493 {l : Launch} {X : pX} {t g : Nat} {I : pHI} {J : pHJ} {Q : pQ} {i : Nat} (hi : i < 19) (hq : Q (some (.int (nI 0))) I J (pR t g)) : pM l X yJ0_coder_7d493 mJ0_coder_7d493 0 [.ref (1000000 + 2 * i)] pK pK I J (pR t g) Q := by
  refine pM_of rfl (fun h => by cases h) rfl pKM (Nat.le_of_ble_eq_true rfl) ?_
  refine pE_scs dJ0_coder_7d493_0 rfl ?_
  refine pE_if_eq_f (tgt := 13) dJ0_coder_7d493_3 (by decide) nI_1n0 ?_
  refine pE_aload_n dJ0_coder_7d493_6 rfl rfl ?_
  refine pE_scod dJ0_coder_7d493_7 rfl (by first | assumption | decide) ?_
  refine pE_goto (tgt := 14) dJ0_coder_7d493_10 (by decide) ?_
  refine pE_nret dJ0_coder_7d493_14 rfl rfl rfl ?_
  exact hq
set_option maxHeartbeats 400000 in
set_option maxRecDepth 100000 in
theorem M_J0_isLatin1_aae02 {l : Launch} {X : pX} {t g : Nat} {I : pHI} {J : pHJ} {Q : pQ} {i : Nat} (hi : i < 19) (hq : Q (some (.int (nI 1))) I J (pR t g)) : pM l X yJ0_isLatin1_aae02 mJ0_isLatin1_aae02 0 [.ref (1000000 + 2 * i)] pK pK I J (pR t g) Q := by
  refine pM_of rfl (fun h => by cases h) rfl pKM (Nat.le_of_ble_eq_true rfl) ?_
  refine pE_scs dJ0_isLatin1_aae02_0 rfl ?_
  refine pE_if_eq_f (tgt := 17) dJ0_isLatin1_aae02_3 (by decide) nI_1n0 ?_
  refine pE_aload_n dJ0_isLatin1_aae02_6 rfl rfl ?_
  refine pE_scod dJ0_isLatin1_aae02_7 rfl (by first | assumption | decide) ?_
  refine pE_if_ne_f (tgt := 17) dJ0_isLatin1_aae02_10 (by decide) nI_0 ?_
  refine pE_iconst (v := nI 1) dJ0_isLatin1_aae02_13 rfl ?_
  refine pE_goto (tgt := 18) dJ0_isLatin1_aae02_14 (by decide) ?_
  refine pE_zret dJ0_isLatin1_aae02_18 rfl (by exact Or.inr nI_1') rfl ?_
  exact hq
set_option maxHeartbeats 400000 in
set_option maxRecDepth 100000 in
theorem M_J0_length_8abf5 {l : Launch} {X : pX} {t g : Nat} {I : pHI} {J : pHJ} {Q : pQ} {i : Nat} (hi : i < 19) (hq : Q (some (.int (nI (pLen.getD i 0)))) I J (pR t g)) : pM l X yJ0_length_8abf5 mJ0_length_8abf5 1 [.ref (1000000 + 2 * i)] pK pK I J (pR t g) Q := by
  have hl := sl_ok i hi
  refine pM_of rfl (fun h => by cases h) rfl pKM (Nat.le_of_ble_eq_true rfl) ?_
  refine pE_aload_n dJ0_length_8abf5_0 rfl rfl ?_
  refine pE_sval dJ0_length_8abf5_1 rfl (by first | assumption | decide) ?_
  refine pE_sblen dJ0_length_8abf5_4 (by first | assumption | decide) ?_
  refine pE_aload_n dJ0_length_8abf5_5 rfl rfl ?_
  refine pE_callVS (d' := 0) (as := []) dJ0_length_8abf5_6 lkJ0_335 (cwJ0_coder_7d493 _ _) ivJ0_coder_7d493 rfl (by first | assumption | decide) rfl rfl (Nat.le_of_ble_eq_true rfl) (by decide) pKK ?_
  refine M_J0_coder_7d493 hi ?_
  refine pE_ishr dJ0_length_8abf5_9 ?_
  rw [shr0 hl]
  refine pE_iret dJ0_length_8abf5_10 rfl rfl ?_
  exact hq
set_option maxHeartbeats 400000 in
set_option maxRecDepth 100000 in
theorem M_J3_checkIndex_8e157 {l : Launch} {X : pX} {t g : Nat} {I : pHI} {J : pHJ} {Q : pQ} {a b c : Nat} (h1 : a < b) (h2 : b < 2 ^ 31) (hq : Q (some (.int (nI a))) I J (pR t g)) : pM l X yJ3_checkIndex_8e157 mJ3_checkIndex_8e157 0 [.int (nI a), .int (nI b), .ref c] pK pK I J (pR t g) Q := by
  refine pM_of rfl (fun h => by cases h) rfl pKM (Nat.le_of_ble_eq_true rfl) ?_
  refine pE_iload_n dJ3_checkIndex_8e157_0 rfl rfl ?_
  refine pE_if_lt (tgt := 9) dJ3_checkIndex_8e157_1 (by decide) (fun h1 => ?_) (fun h1 => ?_)
  · exact absurd h1 (nI_pos (by omega))
  · refine pE_iload_n dJ3_checkIndex_8e157_4 rfl rfl ?_
    refine pE_iload_n dJ3_checkIndex_8e157_5 rfl rfl ?_
    refine pE_icmp_lt (tgt := 16) dJ3_checkIndex_8e157_6 (by decide) (fun h6 => ?_) (fun h6 => ?_)
    · have g6 := nq_lt (by omega) (by omega) h6
      refine pE_iload_n dJ3_checkIndex_8e157_16 rfl rfl ?_
      refine pE_iret dJ3_checkIndex_8e157_17 rfl rfl ?_
      exact hq
    · have g6 := nq_nlt (by omega) (by omega) h6
      omega
set_option maxHeartbeats 400000 in
set_option maxRecDepth 100000 in
theorem M_J3_checkIndex_n {l : Launch} {X : pX} {t g : Nat} {I : pHI} {J : pHJ} {Q : pQ} {a b : Nat} (h1 : a < b) (h2 : b < 2 ^ 31) (hq : Q (some (.int (nI a))) I J (pR t g)) : pM l X yJ3_checkIndex_8e157 mJ3_checkIndex_8e157 0 [.int (nI a), .int (nI b), .null] pK pK I J (pR t g) Q := by
  refine pM_of rfl (fun h => by cases h) rfl pKM (Nat.le_of_ble_eq_true rfl) ?_
  refine pE_iload_n dJ3_checkIndex_8e157_0 rfl rfl ?_
  refine pE_if_lt (tgt := 9) dJ3_checkIndex_8e157_1 (by decide) (fun h1 => ?_) (fun h1 => ?_)
  · exact absurd h1 (nI_pos (by omega))
  · refine pE_iload_n dJ3_checkIndex_8e157_4 rfl rfl ?_
    refine pE_iload_n dJ3_checkIndex_8e157_5 rfl rfl ?_
    refine pE_icmp_lt (tgt := 16) dJ3_checkIndex_8e157_6 (by decide) (fun h6 => ?_) (fun h6 => ?_)
    · have g6 := nq_lt (by omega) (by omega) h6
      refine pE_iload_n dJ3_checkIndex_8e157_16 rfl rfl ?_
      refine pE_iret dJ3_checkIndex_8e157_17 rfl rfl ?_
      exact hq
    · have g6 := nq_nlt (by omega) (by omega) h6
      omega
set_option maxHeartbeats 400000 in
set_option maxRecDepth 100000 in
theorem M_J0_checkIndex_df160 {l : Launch} {X : pX} {t g : Nat} {I : pHI} {J : pHJ} {Q : pQ} {a b : Nat} (h1 : a < b) (h2 : b < 2 ^ 31) (hq : Q none I J (pR t g)) : pM l X yJ0_checkIndex_df160 mJ0_checkIndex_df160 1 [.int (nI a), .int (nI b)] pK pK I J (pR t g) Q := by
  refine pM_of rfl (fun h => by cases h) rfl pKM (Nat.le_of_ble_eq_true rfl) ?_
  refine pE_iload_n dJ0_checkIndex_df160_0 rfl rfl ?_
  refine pE_iload_n dJ0_checkIndex_df160_1 rfl rfl ?_
  refine pE_sfm dJ0_checkIndex_df160_2 rfl ?_ ?_
  · refine pE_callS (d' := 0) (as := [_, _, _]) dJ0_checkIndex_df160_5 lkJ0_1059 (cwJ3_checkIndex_8e157 _ _) svJ3_checkIndex_8e157 rfl rfl (Nat.le_of_ble_eq_true rfl) (by decide) pKK ?_
    refine M_J3_checkIndex_n h1 h2 ?_
    refine pE_popI dJ0_checkIndex_df160_8 ?_
    refine pE_vret dJ0_checkIndex_df160_9 rfl rfl ?_
    exact hq
  · refine pE_callS (d' := 0) (as := [_, _, _]) dJ0_checkIndex_df160_5 lkJ0_1059 (cwJ3_checkIndex_8e157 _ _) svJ3_checkIndex_8e157 rfl rfl (Nat.le_of_ble_eq_true rfl) (by decide) pKK ?_
    refine M_J3_checkIndex_8e157 h1 h2 ?_
    refine pE_popI dJ0_checkIndex_df160_8 ?_
    refine pE_vret dJ0_checkIndex_df160_9 rfl rfl ?_
    exact hq
set_option maxHeartbeats 400000 in
set_option maxRecDepth 100000 in
theorem M_J1_charAt_3b067 {l : Launch} {X : pX} {t g : Nat} {I : pHI} {J : pHJ} {Q : pQ} {i j : Nat} (hi : i < 19) (hj : j < pLen.getD i 0) (hq : Q (some (.int (nI (sCh i j)))) I J (pR t g)) : pM l X yJ1_charAt_3b067 mJ1_charAt_3b067 2 [.ref (1000001 + 2 * i), .int (nI j)] pK pK I J (pR t g) Q := by
  have hl := sl_ok i hi
  have hc := (sCh_ok i hi j hj).2
  refine pM_of rfl (fun h => by cases h) rfl pKM (Nat.le_of_ble_eq_true rfl) ?_
  refine pE_iload_n dJ1_charAt_3b067_0 rfl rfl ?_
  refine pE_aload_n dJ1_charAt_3b067_1 rfl rfl ?_
  refine pE_sblen dJ1_charAt_3b067_2 (by first | assumption | decide) ?_
  refine pE_callS (d' := 1) (as := [_, _]) dJ1_charAt_3b067_3 lkJ1_9 (cwJ0_checkIndex_df160 _ _) svJ0_checkIndex_df160 rfl rfl (Nat.le_of_ble_eq_true rfl) (by decide) pKK ?_
  refine M_J0_checkIndex_df160 hj (by omega) ?_
  refine pE_aload_n dJ1_charAt_3b067_6 rfl rfl ?_
  refine pE_iload_n dJ1_charAt_3b067_7 rfl rfl ?_
  refine pE_sbload dJ1_charAt_3b067_8 (by first | assumption | decide) (by first | assumption | omega) ?_
  refine pE_sipush (v := nI 255) dJ1_charAt_3b067_9 rfl ?_
  refine pE_iand dJ1_charAt_3b067_12 ?_
  rw [and_255 (by omega)]
  refine pE_i2c dJ1_charAt_3b067_13 ?_
  rw [i2c_s (by omega)]
  refine pE_nret dJ1_charAt_3b067_14 rfl (nar_c (by omega)) rfl ?_
  exact hq
set_option maxHeartbeats 400000 in
set_option maxRecDepth 100000 in
theorem M_J0_charAt_5068e {l : Launch} {X : pX} {t g : Nat} {I : pHI} {J : pHJ} {Q : pQ} {i j : Nat} (hi : i < 19) (hj : j < pLen.getD i 0) (hq : Q (some (.int (nI (sCh i j)))) I J (pR t g)) : pM l X yJ0_charAt_5068e mJ0_charAt_5068e 3 [.ref (1000000 + 2 * i), .int (nI j)] pK pK I J (pR t g) Q := by
  have hl := sl_ok i hi
  have hc := (sCh_ok i hi j hj).2
  refine pM_of rfl (fun h => by cases h) rfl pKM (Nat.le_of_ble_eq_true rfl) ?_
  refine pE_aload_n dJ0_charAt_5068e_0 rfl rfl ?_
  refine pE_callVS (d' := 0) (as := []) dJ0_charAt_5068e_1 lkJ0_492 (cwJ0_isLatin1_aae02 _ _) ivJ0_isLatin1_aae02 rfl (by first | assumption | decide) rfl rfl (Nat.le_of_ble_eq_true rfl) (by decide) pKK ?_
  refine M_J0_isLatin1_aae02 hi ?_
  refine pE_if_eq (tgt := 16) dJ0_charAt_5068e_4 (by decide) (fun h4 => ?_) (fun h4 => ?_)
  · have g4 := nq_eq0 (by omega) h4
    omega
  · have g4 := nq_ne0 (by omega) h4
    refine pE_aload_n dJ0_charAt_5068e_7 rfl rfl ?_
    refine pE_sval dJ0_charAt_5068e_8 rfl (by first | assumption | decide) ?_
    refine pE_iload_n dJ0_charAt_5068e_11 rfl rfl ?_
    refine pE_callS (d' := 2) (as := [_, _]) dJ0_charAt_5068e_12 lkJ0_495 (cwJ1_charAt_3b067 _ _) svJ1_charAt_3b067 rfl rfl (Nat.le_of_ble_eq_true rfl) (by decide) pKK ?_
    refine M_J1_charAt_3b067 hi hj ?_
    refine pE_nret dJ0_charAt_5068e_15 rfl (nar_c (by omega)) rfl ?_
    exact hq
theorem ic_eq {a c : Nat} (ha : a < 128) (hc : c < 256) : nI a = (nI c).toInt8.toInt32 ↔ a = c := by
  rcases Nat.lt_or_ge c 128 with h | h
  · rw [i2b_lo h]; exact nI_eq (by omega) (by omega)
  · obtain ⟨z, rfl⟩ : ∃ z, c = z + 128 := ⟨c - 128, by omega⟩
    refine ⟨fun e => ?_, fun e => by omega⟩
    have := i2b_hi (n := z) (by omega)
    rw [← e] at this
    exact absurd this (nI_pos (by omega))
set_option maxHeartbeats 400000 in
set_option maxRecDepth 100000 in
theorem M_J1_canEncode_9a6ad {l : Launch} {X : pX} {t g : Nat} {I : pHI} {J : pHJ} {Q : pQ} {c : Nat} (hc : c < 256) (hq : Q (some (.int (nI 1))) I J (pR t g)) : pM l X yJ1_canEncode_9a6ad mJ1_canEncode_9a6ad 0 [.int (nI c)] pK pK I J (pR t g) Q := by
  refine pM_of rfl (fun h => by cases h) rfl pKM (Nat.le_of_ble_eq_true rfl) ?_
  refine pE_iload_n dJ1_canEncode_9a6ad_0 rfl rfl ?_
  refine pE_if_lt (tgt := 15) dJ1_canEncode_9a6ad_1 (by decide) (fun h1 => ?_) (fun h1 => ?_)
  · exact absurd h1 (nI_pos (by omega))
  · refine pE_iload_n dJ1_canEncode_9a6ad_4 rfl rfl ?_
    refine pE_sipush (v := nI 255) dJ1_canEncode_9a6ad_5 rfl ?_
    refine pE_icmp_gt (tgt := 15) dJ1_canEncode_9a6ad_8 (by decide) (fun h8 => ?_) (fun h8 => ?_)
    · have g8 := nq_lt (by omega) (by omega) h8
      omega
    · have g8 := nq_nlt (by omega) (by omega) h8
      refine pE_iconst (v := nI 1) dJ1_canEncode_9a6ad_11 rfl ?_
      refine pE_goto (tgt := 16) dJ1_canEncode_9a6ad_12 (by decide) ?_
      refine pE_zret dJ1_canEncode_9a6ad_16 rfl (by exact Or.inr nI_1') rfl ?_
      exact hq
set_option maxHeartbeats 400000 in
set_option maxRecDepth 100000 in
theorem L_J1_ixc {l : Launch} {X : pX} {t g : Nat} {I : pHI} {J : pHJ} {Q : pQ} {i c : Nat} (hi : i < 19) (hc : c < 256) (h1 : ∀ j, j < pLen.getD i 0 → sCh i j = c → Q (some (.int (nI j))) I J (pR t g)) (h0 : (∀ j, j < pLen.getD i 0 → sCh i j ≠ c) → Q (some (.int (-1))) I J (pR t g)) : ∀ (fu : Nat) (k : Nat), pLen.getD i 0 - k < fu → (k ≤ pLen.getD i 0) → (∀ j, j < k → sCh i j ≠ c) → pE l X mJ1_indexOfChar_4cfef 0 pK 7 [some (.ref (1000001 + 2 * i)), some (.int (nI c)), some (.int (nI 0)), some (.int (nI (pLen.getD i 0))), some (.int (nI c).toInt8.toInt32), some (.int (nI k))] [] pK I J (pR t g) Q := by
  intro fu
  induction fu with
  | zero => intro k hn; exact absurd hn (Nat.not_lt_zero _)
  | succ fu ih =>
    intro k hn hk hn
    have hl := sl_ok i hi
    refine pE_iload dJ1_indexOfChar_4cfef_7 rfl ?_
    refine pE_iload_n dJ1_indexOfChar_4cfef_9 rfl rfl ?_
    refine pE_icmp_ge (tgt := 31) dJ1_indexOfChar_4cfef_10 (by decide) (fun h10 => ?_) (fun h10 => ?_)
    · have g10 := nq_le (by omega) (by omega) h10
      refine pE_iconst (v := -1) dJ1_indexOfChar_4cfef_31 rfl ?_
      refine pE_iret dJ1_indexOfChar_4cfef_32 rfl rfl ?_
      exact h0 (fun j hj => hn j (by omega))
    · have g10 := nq_nle (by omega) (by omega) h10
      refine pE_aload_n dJ1_indexOfChar_4cfef_13 rfl rfl ?_
      refine pE_iload dJ1_indexOfChar_4cfef_14 rfl ?_
      refine pE_sbload dJ1_indexOfChar_4cfef_16 (by first | assumption | decide) (by first | assumption | omega) ?_
      have hb := (sCh_ok i hi k (by omega)).2
      refine pE_iload dJ1_indexOfChar_4cfef_17 rfl ?_
      refine pE_icmp_ne (tgt := 25) dJ1_indexOfChar_4cfef_19 (by decide) (fun h19 => ?_) (fun h19 => ?_)
      · refine pE_iincN (c0 := 1) (lc' := [_, _, _, _, _, some (.int _)]) dJ1_indexOfChar_4cfef_25 rfl rfl rfl rfl ?_
        refine pE_goto (tgt := 7) dJ1_indexOfChar_4cfef_28 (by decide) ?_
        refine ih (k + 1) (by omega) (by omega) (fun j hj => ?_)
        by_cases e : j = k
        · subst e; exact fun z => h19 ((ic_eq hb hc).mpr z)
        · exact hn j (by omega)
      · refine pE_iload dJ1_indexOfChar_4cfef_22 rfl ?_
        refine pE_iret dJ1_indexOfChar_4cfef_24 rfl rfl ?_
        exact h1 k (by omega) ((ic_eq hb hc).mp h19)
set_option maxHeartbeats 400000 in
set_option maxRecDepth 100000 in
theorem M_J1_indexOfChar_4cfef {l : Launch} {X : pX} {t g : Nat} {I : pHI} {J : pHJ} {Q : pQ} {i c : Nat} (hi : i < 19) (hc : c < 256) (h1 : ∀ j, j < pLen.getD i 0 → sCh i j = c → Q (some (.int (nI j))) I J (pR t g)) (h0 : (∀ j, j < pLen.getD i 0 → sCh i j ≠ c) → Q (some (.int (-1))) I J (pR t g)) : pM l X yJ1_indexOfChar_4cfef mJ1_indexOfChar_4cfef 0 [.ref (1000001 + 2 * i), .int (nI c), .int (nI 0), .int (nI (pLen.getD i 0))] pK pK I J (pR t g) Q := by
  refine pM_of rfl (fun h => by cases h) rfl pKM (Nat.le_of_ble_eq_true rfl) ?_
  refine pE_iload_n dJ1_indexOfChar_4cfef_0 rfl rfl ?_
  refine pE_i2b dJ1_indexOfChar_4cfef_1 ?_
  refine pE_istore (lc' := [_, _, _, _, some (.int _), _]) dJ1_indexOfChar_4cfef_2 (Nat.le_of_ble_eq_true rfl) rfl rfl ?_
  refine pE_iload_n dJ1_indexOfChar_4cfef_4 rfl rfl ?_
  refine pE_istore (lc' := [_, _, _, _, _, some (.int _)]) dJ1_indexOfChar_4cfef_5 (Nat.le_of_ble_eq_true rfl) rfl rfl ?_
  exact L_J1_ixc hi hc h1 h0 (pLen.getD i 0 + 1) 0 (by omega) (by omega) (fun j hj => absurd hj (by omega))
set_option maxHeartbeats 400000 in
set_option maxRecDepth 100000 in
theorem M_J1_indexOf_4cfef {l : Launch} {X : pX} {t g : Nat} {I : pHI} {J : pHJ} {Q : pQ} {i c : Nat} (hi : i < 19) (hz : 0 < pLen.getD i 0) (hc : c < 256) (h1 : ∀ j, j < pLen.getD i 0 → sCh i j = c → Q (some (.int (nI j))) I J (pR t g)) (h0 : (∀ j, j < pLen.getD i 0 → sCh i j ≠ c) → Q (some (.int (-1))) I J (pR t g)) : pM l X yJ1_indexOf_4cfef mJ1_indexOf_4cfef 1 [.ref (1000001 + 2 * i), .int (nI c), .int (nI 0), .int (nI (pLen.getD i 0))] pK pK I J (pR t g) Q := by
  have hl := sl_ok i hi
  refine pM_of rfl (fun h => by cases h) rfl pKM (Nat.le_of_ble_eq_true rfl) ?_
  refine pE_iload_n dJ1_indexOf_4cfef_0 rfl rfl ?_
  refine pE_callS (d' := 0) (as := [_]) dJ1_indexOf_4cfef_1 lkJ1_88 (cwJ1_canEncode_9a6ad _ _) svJ1_canEncode_9a6ad rfl rfl (Nat.le_of_ble_eq_true rfl) (by decide) pKK ?_
  refine M_J1_canEncode_9a6ad hc ?_
  refine pE_if_ne (tgt := 9) dJ1_indexOf_4cfef_4 (by decide) (fun h4 => ?_) (fun h4 => ?_)
  · have g4 := nq_ne0 (by omega) h4
    refine pE_iload_n dJ1_indexOf_4cfef_9 rfl rfl ?_
    refine pE_iconst (v := nI 0) dJ1_indexOf_4cfef_10 rfl ?_
    refine pE_max dJ1_indexOf_4cfef_11 lkJ1_92 (by decide) (Nat.le_of_ble_eq_true rfl) ?_
    rw [nI_max 0 0 (by omega) (by omega), Nat.max_self]
    refine pE_istore_n (lc' := [_, _, some (.int _), _]) dJ1_indexOf_4cfef_14 rfl (Nat.le_of_ble_eq_true rfl) rfl rfl ?_
    refine pE_iload_n dJ1_indexOf_4cfef_15 rfl rfl ?_
    refine pE_aload_n dJ1_indexOf_4cfef_16 rfl rfl ?_
    refine pE_sblen dJ1_indexOf_4cfef_17 (by first | assumption | decide) ?_
    refine pE_min dJ1_indexOf_4cfef_18 lkJ1_38 (by decide) (Nat.le_of_ble_eq_true rfl) ?_
    rw [nI_min _ _ (by omega) (by omega), Nat.min_self]
    refine pE_istore_n (lc' := [_, _, _, some (.int _)]) dJ1_indexOf_4cfef_21 rfl (Nat.le_of_ble_eq_true rfl) rfl rfl ?_
    refine pE_iload_n dJ1_indexOf_4cfef_22 rfl rfl ?_
    refine pE_iload_n dJ1_indexOf_4cfef_23 rfl rfl ?_
    refine pE_icmp_lt (tgt := 29) dJ1_indexOf_4cfef_24 (by decide) (fun h24 => ?_) (fun h24 => ?_)
    · have g24 := nq_lt (by omega) (by omega) h24
      refine pE_aload_n dJ1_indexOf_4cfef_29 rfl rfl ?_
      refine pE_iload_n dJ1_indexOf_4cfef_30 rfl rfl ?_
      refine pE_iload_n dJ1_indexOf_4cfef_31 rfl rfl ?_
      refine pE_iload_n dJ1_indexOf_4cfef_32 rfl rfl ?_
      refine pE_callS (d' := 0) (as := [_, _, _, _]) dJ1_indexOf_4cfef_33 lkJ1_95 (cwJ1_indexOfChar_4cfef _ _) svJ1_indexOfChar_4cfef rfl rfl (Nat.le_of_ble_eq_true rfl) (by decide) pKK ?_
      refine M_J1_indexOfChar_4cfef hi hc (fun j hj e => ?_) (fun hn => ?_)
      · refine pE_iret dJ1_indexOf_4cfef_36 rfl rfl ?_
        first | exact h1 j hj e | exact h0 hn
      · refine pE_iret dJ1_indexOf_4cfef_36 rfl rfl ?_
        first | exact h1 j hj e | exact h0 hn
    · have g24 := nq_nlt (by omega) (by omega) h24
      omega
  · have g4 := nq_eq0 (by omega) h4
    omega
set_option maxHeartbeats 400000 in
set_option maxRecDepth 100000 in
theorem M_J0_indexOf_7cf53 {l : Launch} {X : pX} {t g : Nat} {I : pHI} {J : pHJ} {Q : pQ} {i c : Nat} (hi : i < 19) (hz : 0 < pLen.getD i 0) (hc : c < 256) (h1 : ∀ j, j < pLen.getD i 0 → sCh i j = c → Q (some (.int (nI j))) I J (pR t g)) (h0 : (∀ j, j < pLen.getD i 0 → sCh i j ≠ c) → Q (some (.int (-1))) I J (pR t g)) : pM l X yJ0_indexOf_7cf53 mJ0_indexOf_7cf53 2 [.ref (1000000 + 2 * i), .int (nI c), .int (nI 0)] pK pK I J (pR t g) Q := by
  have hl := sl_ok i hi
  refine pM_of rfl (fun h => by cases h) rfl pKM (Nat.le_of_ble_eq_true rfl) ?_
  refine pE_aload_n dJ0_indexOf_7cf53_0 rfl rfl ?_
  refine pE_callVS (d' := 0) (as := []) dJ0_indexOf_7cf53_1 lkJ0_492 (cwJ0_isLatin1_aae02 _ _) ivJ0_isLatin1_aae02 rfl (by first | assumption | decide) rfl rfl (Nat.le_of_ble_eq_true rfl) (by decide) pKK ?_
  refine M_J0_isLatin1_aae02 hi ?_
  refine pE_if_eq (tgt := 23) dJ0_indexOf_7cf53_4 (by decide) (fun h4 => ?_) (fun h4 => ?_)
  · have g4 := nq_eq0 (by omega) h4
    omega
  · have g4 := nq_ne0 (by omega) h4
    refine pE_aload_n dJ0_indexOf_7cf53_7 rfl rfl ?_
    refine pE_sval dJ0_indexOf_7cf53_8 rfl (by first | assumption | decide) ?_
    refine pE_iload_n dJ0_indexOf_7cf53_11 rfl rfl ?_
    refine pE_iload_n dJ0_indexOf_7cf53_12 rfl rfl ?_
    refine pE_aload_n dJ0_indexOf_7cf53_13 rfl rfl ?_
    refine pE_callVS (d' := 1) (as := []) dJ0_indexOf_7cf53_14 lkJ0_505 (cwJ0_length_8abf5 _ _) ivJ0_length_8abf5 rfl (by first | assumption | decide) rfl rfl (Nat.le_of_ble_eq_true rfl) (by decide) pKK ?_
    refine M_J0_length_8abf5 hi ?_
    refine pE_callS (d' := 1) (as := [_, _, _, _]) dJ0_indexOf_7cf53_17 lkJ0_637 (cwJ1_indexOf_4cfef _ _) svJ1_indexOf_4cfef rfl rfl (Nat.le_of_ble_eq_true rfl) (by decide) pKK ?_
    refine M_J1_indexOf_4cfef hi hz hc (fun j hj e => ?_) (fun hn => ?_)
    · refine pE_goto (tgt := 36) dJ0_indexOf_7cf53_20 (by decide) ?_
      refine pE_iret dJ0_indexOf_7cf53_36 rfl rfl ?_
      first | exact h1 j hj e | exact h0 hn
    · refine pE_goto (tgt := 36) dJ0_indexOf_7cf53_20 (by decide) ?_
      refine pE_iret dJ0_indexOf_7cf53_36 rfl rfl ?_
      first | exact h1 j hj e | exact h0 hn
set_option maxHeartbeats 400000 in
set_option maxRecDepth 100000 in
theorem M_J0_indexOf_0f7a4 {l : Launch} {X : pX} {t g : Nat} {I : pHI} {J : pHJ} {Q : pQ} {i c : Nat} (hi : i < 19) (hz : 0 < pLen.getD i 0) (hc : c < 256) (h1 : ∀ j, j < pLen.getD i 0 → sCh i j = c → Q (some (.int (nI j))) I J (pR t g)) (h0 : (∀ j, j < pLen.getD i 0 → sCh i j ≠ c) → Q (some (.int (-1))) I J (pR t g)) : pM l X yJ0_indexOf_0f7a4 mJ0_indexOf_0f7a4 3 [.ref (1000000 + 2 * i), .int (nI c)] pK pK I J (pR t g) Q := by
  refine pM_of rfl (fun h => by cases h) rfl pKM (Nat.le_of_ble_eq_true rfl) ?_
  refine pE_aload_n dJ0_indexOf_0f7a4_0 rfl rfl ?_
  refine pE_iload_n dJ0_indexOf_0f7a4_1 rfl rfl ?_
  refine pE_iconst (v := nI 0) dJ0_indexOf_0f7a4_2 rfl ?_
  refine pE_callVS (d' := 2) (as := [_, _]) dJ0_indexOf_0f7a4_3 lkJ0_633 (cwJ0_indexOf_7cf53 _ _) ivJ0_indexOf_7cf53 rfl (by first | assumption | decide) rfl rfl (Nat.le_of_ble_eq_true rfl) (by decide) pKK ?_
  refine M_J0_indexOf_7cf53 hi hz hc (fun j hj e => ?_) (fun hn => ?_)
  · refine pE_iret dJ0_indexOf_0f7a4_6 rfl rfl ?_
    first | exact h1 j hj e | exact h0 hn
  · refine pE_iret dJ0_indexOf_0f7a4_6 rfl rfl ?_
    first | exact h1 j hj e | exact h0 hn
