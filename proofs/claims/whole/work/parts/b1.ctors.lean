/-! cells made one behind the other, in the order of the layout *) -/
def jz : pHJ := fun _ _ => 0
theorem pSz_app (A B : List pS) : pSz (A ++ B) = pSz A + pSz B := by simp [pSz]
theorem pSz_tk {m n : Nat} (h : m ≤ n) : pSz (pK.take m) ≤ pSz (pK.take n) := by
  have e : pK.take n = pK.take m ++ (pK.take n).drop m := by
    conv => lhs; rw [← List.take_append_drop m (pK.take n)]
    rw [List.take_take, Nat.min_eq_left h]
  rw [e, pSz_app]
  exact Nat.le_add_right _ _
theorem pTl (m : Nat) (h : m ≤ 109) : (pK.take m).length = m := by
  rw [List.length_take, show pK.length = 109 from rfl]; omega
theorem pT3 {m n : Nat} (h : m ≤ n) (hn : n ≤ 109) : (pK.take m).length ≤ (pK.take n).length ∧ pSz (pK.take m) ≤ pSz (pK.take n) ∧ (pK.take n).length ≤ 1000 := by
  rw [pTl m (by omega), pTl n hn]
  exact ⟨h, pSz_tk h, by omega⟩
theorem pT5 {a b c : Nat} (h1 : a ≤ b) (h2 : b ≤ c) (h3 : c ≤ 109) : (pK.take a).length ≤ (pK.take b).length ∧ (pK.take b).length ≤ (pK.take c).length ∧ pSz (pK.take a) ≤ pSz (pK.take b) ∧ pSz (pK.take b) ≤ pSz (pK.take c) ∧ (pK.take b).length ≤ 1000 := by
  rw [pTl a (by omega), pTl b (by omega), pTl c h3]
  exact ⟨h1, h2, pSz_tk h1, pSz_tk h2, by omega⟩
theorem pTk1 (m : Nat) (h : m ≤ 109) : (pK.take m).length ≤ 1000 := by rw [pTl m h]; omega
theorem pz_0 {α : Type} {f : Nat → Nat → α} {c : Nat} {g : Nat → α} (h : f c = g) : pz f c g = f := by
  funext i
  unfold pz
  split
  · rename_i e; rw [e, h]
  · rfl
theorem pu_z {I : pHI} {c k : Nat} (h : I c k = nI 0) : pu I c k (nI 0) = I := by
  funext i j
  rw [pu_at]
  split
  · rename_i e; rw [e.1, e.2, h]
  · rfl
theorem pu_jz (c k : Nat) : pu jz c k 0 = jz := by
  funext i j
  rw [pu_at]
  split <;> rfl
theorem pK_tk {m : Nat} {s : pS} (h : pK[m]? = some s) : pK.take m ++ [s] = pK.take (m + 1) := by
  rw [List.take_succ, h]; rfl
theorem pSz_1 {m n : Nat} {s : pS} (h : pK[m]? = some s) (hn : m < n) (h9 : n ≤ 109) : (pK.take m).length + 1 ≤ (pK.take n).length ∧ pSz (pK.take m) + pSz1 s ≤ pSz (pK.take n) ∧ (pK.take m).length + 1 ≤ 1000 := by
  rw [pTl m (by omega), pTl n h9]
  refine ⟨hn, ?_, by omega⟩
  have := pSz_tk (show m + 1 ≤ n from hn)
  rw [← pK_tk h, pSz_app] at this
  simpa [pSz] using this
section NT
variable {l : Launch} {X : pX} {md : pMd} {d pc : Nat} {lc : pLc} {st : List Value} {I : pHI} {R : pHR} {Q : pQ}
theorem pE_newT {m m1 index ci : Nat} {ty0 : Nat → FieldType} (hd : decode md.2.1 pc = .ok (.new index, 3)) (ht : pFt ci ty0) (hw : ∃ r : vw_C, vwCl[ci]? = some r ∧ (∀ w ∈ u_ws r.1 r.2.1 r.2.2, w ∈ pTb) ∧ Cond.classLink md.1 index r.1 ∈ pTb ∧ Cond.instantiable r.1 r.2.2 ∈ pTb ∧ Cond.initialized r.1 ∈ pTb ∧ (∀ j, j < r.2.2 → ∀ ad : Nat → Nat, ∀ o : Nat, defaultValue (ty0 j) = vp_V (pFs ad (fun _ _ => 0) (fun _ _ => 0) (fun _ _ => none) o ci) j)) (hm : pK[m]? = some (.inl ci)) (h1 : m < m1) (h9 : m1 ≤ 109) (hI : I m = fun _ => 0) (hJ : jz m = fun _ => 0) (hR : R m = fun _ => none) (kk : pE l X md d (pK.take m1) (pc + 3) lc (.ref m :: st) (pK.take (m + 1)) I jz R Q) : pE l X md d (pK.take m1) pc lc st (pK.take m) I jz R Q := by
  have e : (pK.take m).length = m := pTl m (by omega)
  refine pE_new hd ht hw (pSz_1 hm h1 h9) ?_
  rw [e, pz_0 hI, pz_0 hJ, pz_0 hR, pK_tk hm]
  exact kk
theorem pE_newAT {m m1 t n : Nat} {at_ : ArrayType} (hd : decode md.2.1 pc = .ok (.newarray at_, 2)) (hat : (t = 0 ∧ at_ = .int) ∨ (t = 2 ∧ at_ = .byte) ∨ (t = 3 ∧ at_ = .boolean)) (hw : Cond.arrayClass (newarray.typeOf at_) ∈ pTb) (hm : pK[m]? = some (.inr (t, n))) (h1 : m < m1) (h9 : m1 ≤ 109) (hn : n ≤ 100000) (hI : I m = fun _ => 0) (kk : pE l X md d (pK.take m1) (pc + 2) lc (.ref m :: st) (pK.take (m + 1)) I jz R Q) : pE l X md d (pK.take m1) pc lc (.int (nI n) :: st) (pK.take m) I jz R Q := by
  have e : (pK.take m).length = m := pTl m (by omega)
  refine pE_newA hd hat hw (nI_pos (by omega)) (nI_clamp (by omega)) hn (pSz_1 hm h1 h9) ?_
  rw [e, pz_0 hI, pK_tk hm]
  exact kk
theorem pE_newLT {m m1 n : Nat} (hd : decode md.2.1 pc = .ok (.newarray .long, 2)) (hw : Cond.arrayClass .long ∈ pTb) (hm : pK[m]? = some (.inr (1, n))) (h1 : m < m1) (h9 : m1 ≤ 109) (hn : n ≤ 100000) (hJ : jz m = fun _ => 0) (kk : pE l X md d (pK.take m1) (pc + 2) lc (.ref m :: st) (pK.take (m + 1)) I jz R Q) : pE l X md d (pK.take m1) pc lc (.int (nI n) :: st) (pK.take m) I jz R Q := by
  have e : (pK.take m).length = m := pTl m (by omega)
  refine pE_newL hd hw (nI_pos (by omega)) (nI_clamp (by omega)) hn (pSz_1 hm h1 h9) ?_
  rw [e, pz_0 hJ, pK_tk hm]
  exact kk
end NT
set_option maxHeartbeats 400000 in
set_option maxRecDepth 100000 in
theorem M_X1_init_11 {l : Launch} {X : pX} {I : pHI} {R : pHR} {Q : pQ} (hz : ∀ c, 11 ≤ c → I c = fun _ => 0) (hr : ∀ c, 11 ≤ c → R c = fun _ => none) (hq : Q none I jz (pu (pu (pu R 11 0 (some 12)) 11 1 (some 13)) 11 3 (some 14))) : pM l X yX1_init mX1_init 1 [.ref 11] (pK.take 12) (pK.take 15) I jz R Q := by
  refine pM_of rfl (fun _ => rfl) rfl (pT3 (by decide) (by decide)) (Nat.le_of_ble_eq_true rfl) ?_
  refine pE_aload_n dX1_init_0 rfl rfl ?_
  refine pE_objInit dX1_init_1 lkX1_1 lkObj.1 lkObj.2 (by decide) (Nat.le_of_ble_eq_true rfl) ?_
  refine pE_aload_n dX1_init_4 rfl rfl ?_
  refine pE_sipush (v := nI 300) dX1_init_5 rfl ?_
  refine pE_newAT (m := 12) dX1_init_8 (by simp) ka_int rfl (by decide) (by decide) (by decide) (by exact hz _ (by decide)) ?_
  refine pE_putRF dX1_init_10 flX1_9 ftX1 fiX1_0 ⟨rfl, _, rfl, rfl, pT1_1 113 rfl rfl⟩ (pRt_a _) rfl (by first | assumption | rfl) ?_
  refine pE_aload_n dX1_init_13 rfl rfl ?_
  refine pE_sipush (v := nI 300) dX1_init_14 rfl ?_
  refine pE_newAT (m := 13) dX1_init_17 (by simp) ka_int rfl (by decide) (by decide) (by decide) (by exact hz _ (by decide)) ?_
  refine pE_putRF dX1_init_19 flX1_13 ftX1 fiX1_1 ⟨rfl, _, rfl, rfl, pT1_1 114 rfl rfl⟩ (pRt_a _) rfl (by first | assumption | rfl) ?_
  refine pE_aload_n dX1_init_22 rfl rfl ?_
  refine pE_iconst (v := nI 0) dX1_init_23 rfl ?_
  refine pE_putI dX1_init_24 flX1_16 ftX1 fiX1_2 rfl rfl (by first | assumption | rfl) ?_
  rw [pu_z (by exact (congrFun (hz _ (by decide)) _).trans nI_0.symm)]
  refine pE_aload_n dX1_init_27 rfl rfl ?_
  refine pE_bipush (v := nI 32) dX1_init_28 rfl ?_
  refine pE_newAT (m := 14) dX1_init_30 (by simp) ka_int rfl (by decide) (by decide) (by decide) (by exact hz _ (by decide)) ?_
  refine pE_putRF dX1_init_32 flX1_20 ftX1 fiX1_3 ⟨rfl, _, rfl, rfl, pT1_1 116 rfl rfl⟩ (pRt_a _) rfl (by first | assumption | rfl) ?_
  refine pE_aload_n dX1_init_35 rfl rfl ?_
  refine pE_iconst (v := nI 0) dX1_init_36 rfl ?_
  refine pE_putI dX1_init_37 flX1_23 ftX1 fiX1_4 rfl rfl (by first | assumption | rfl) ?_
  rw [pu_z (by exact (congrFun (hz _ (by decide)) _).trans nI_0.symm)]
  refine pE_vret dX1_init_40 rfl rfl ?_
  exact hq
set_option maxHeartbeats 400000 in
set_option maxRecDepth 100000 in
theorem M_X1_init_15 {l : Launch} {X : pX} {I : pHI} {R : pHR} {Q : pQ} (hz : ∀ c, 15 ≤ c → I c = fun _ => 0) (hr : ∀ c, 15 ≤ c → R c = fun _ => none) (hq : Q none I jz (pu (pu (pu R 15 0 (some 16)) 15 1 (some 17)) 15 3 (some 18))) : pM l X yX1_init mX1_init 1 [.ref 15] (pK.take 16) (pK.take 19) I jz R Q := by
  refine pM_of rfl (fun _ => rfl) rfl (pT3 (by decide) (by decide)) (Nat.le_of_ble_eq_true rfl) ?_
  refine pE_aload_n dX1_init_0 rfl rfl ?_
  refine pE_objInit dX1_init_1 lkX1_1 lkObj.1 lkObj.2 (by decide) (Nat.le_of_ble_eq_true rfl) ?_
  refine pE_aload_n dX1_init_4 rfl rfl ?_
  refine pE_sipush (v := nI 300) dX1_init_5 rfl ?_
  refine pE_newAT (m := 16) dX1_init_8 (by simp) ka_int rfl (by decide) (by decide) (by decide) (by exact hz _ (by decide)) ?_
  refine pE_putRF dX1_init_10 flX1_9 ftX1 fiX1_0 ⟨rfl, _, rfl, rfl, pT1_1 113 rfl rfl⟩ (pRt_a _) rfl (by first | assumption | rfl) ?_
  refine pE_aload_n dX1_init_13 rfl rfl ?_
  refine pE_sipush (v := nI 300) dX1_init_14 rfl ?_
  refine pE_newAT (m := 17) dX1_init_17 (by simp) ka_int rfl (by decide) (by decide) (by decide) (by exact hz _ (by decide)) ?_
  refine pE_putRF dX1_init_19 flX1_13 ftX1 fiX1_1 ⟨rfl, _, rfl, rfl, pT1_1 114 rfl rfl⟩ (pRt_a _) rfl (by first | assumption | rfl) ?_
  refine pE_aload_n dX1_init_22 rfl rfl ?_
  refine pE_iconst (v := nI 0) dX1_init_23 rfl ?_
  refine pE_putI dX1_init_24 flX1_16 ftX1 fiX1_2 rfl rfl (by first | assumption | rfl) ?_
  rw [pu_z (by exact (congrFun (hz _ (by decide)) _).trans nI_0.symm)]
  refine pE_aload_n dX1_init_27 rfl rfl ?_
  refine pE_bipush (v := nI 32) dX1_init_28 rfl ?_
  refine pE_newAT (m := 18) dX1_init_30 (by simp) ka_int rfl (by decide) (by decide) (by decide) (by exact hz _ (by decide)) ?_
  refine pE_putRF dX1_init_32 flX1_20 ftX1 fiX1_3 ⟨rfl, _, rfl, rfl, pT1_1 116 rfl rfl⟩ (pRt_a _) rfl (by first | assumption | rfl) ?_
  refine pE_aload_n dX1_init_35 rfl rfl ?_
  refine pE_iconst (v := nI 0) dX1_init_36 rfl ?_
  refine pE_putI dX1_init_37 flX1_23 ftX1 fiX1_4 rfl rfl (by first | assumption | rfl) ?_
  rw [pu_z (by exact (congrFun (hz _ (by decide)) _).trans nI_0.symm)]
  refine pE_vret dX1_init_40 rfl rfl ?_
  exact hq
set_option maxHeartbeats 400000 in
set_option maxRecDepth 100000 in
theorem M_X1_init_25 {l : Launch} {X : pX} {I : pHI} {R : pHR} {Q : pQ} (hz : ∀ c, 25 ≤ c → I c = fun _ => 0) (hr : ∀ c, 25 ≤ c → R c = fun _ => none) (hq : Q none I jz (pu (pu (pu R 25 0 (some 26)) 25 1 (some 27)) 25 3 (some 28))) : pM l X yX1_init mX1_init 1 [.ref 25] (pK.take 26) (pK.take 29) I jz R Q := by
  refine pM_of rfl (fun _ => rfl) rfl (pT3 (by decide) (by decide)) (Nat.le_of_ble_eq_true rfl) ?_
  refine pE_aload_n dX1_init_0 rfl rfl ?_
  refine pE_objInit dX1_init_1 lkX1_1 lkObj.1 lkObj.2 (by decide) (Nat.le_of_ble_eq_true rfl) ?_
  refine pE_aload_n dX1_init_4 rfl rfl ?_
  refine pE_sipush (v := nI 300) dX1_init_5 rfl ?_
  refine pE_newAT (m := 26) dX1_init_8 (by simp) ka_int rfl (by decide) (by decide) (by decide) (by exact hz _ (by decide)) ?_
  refine pE_putRF dX1_init_10 flX1_9 ftX1 fiX1_0 ⟨rfl, _, rfl, rfl, pT1_1 113 rfl rfl⟩ (pRt_a _) rfl (by first | assumption | rfl) ?_
  refine pE_aload_n dX1_init_13 rfl rfl ?_
  refine pE_sipush (v := nI 300) dX1_init_14 rfl ?_
  refine pE_newAT (m := 27) dX1_init_17 (by simp) ka_int rfl (by decide) (by decide) (by decide) (by exact hz _ (by decide)) ?_
  refine pE_putRF dX1_init_19 flX1_13 ftX1 fiX1_1 ⟨rfl, _, rfl, rfl, pT1_1 114 rfl rfl⟩ (pRt_a _) rfl (by first | assumption | rfl) ?_
  refine pE_aload_n dX1_init_22 rfl rfl ?_
  refine pE_iconst (v := nI 0) dX1_init_23 rfl ?_
  refine pE_putI dX1_init_24 flX1_16 ftX1 fiX1_2 rfl rfl (by first | assumption | rfl) ?_
  rw [pu_z (by exact (congrFun (hz _ (by decide)) _).trans nI_0.symm)]
  refine pE_aload_n dX1_init_27 rfl rfl ?_
  refine pE_bipush (v := nI 32) dX1_init_28 rfl ?_
  refine pE_newAT (m := 28) dX1_init_30 (by simp) ka_int rfl (by decide) (by decide) (by decide) (by exact hz _ (by decide)) ?_
  refine pE_putRF dX1_init_32 flX1_20 ftX1 fiX1_3 ⟨rfl, _, rfl, rfl, pT1_1 116 rfl rfl⟩ (pRt_a _) rfl (by first | assumption | rfl) ?_
  refine pE_aload_n dX1_init_35 rfl rfl ?_
  refine pE_iconst (v := nI 0) dX1_init_36 rfl ?_
  refine pE_putI dX1_init_37 flX1_23 ftX1 fiX1_4 rfl rfl (by first | assumption | rfl) ?_
  rw [pu_z (by exact (congrFun (hz _ (by decide)) _).trans nI_0.symm)]
  refine pE_vret dX1_init_40 rfl rfl ?_
  exact hq
set_option maxHeartbeats 400000 in
set_option maxRecDepth 100000 in
theorem M_X1_init_29 {l : Launch} {X : pX} {I : pHI} {R : pHR} {Q : pQ} (hz : ∀ c, 29 ≤ c → I c = fun _ => 0) (hr : ∀ c, 29 ≤ c → R c = fun _ => none) (hq : Q none I jz (pu (pu (pu R 29 0 (some 30)) 29 1 (some 31)) 29 3 (some 32))) : pM l X yX1_init mX1_init 1 [.ref 29] (pK.take 30) (pK.take 33) I jz R Q := by
  refine pM_of rfl (fun _ => rfl) rfl (pT3 (by decide) (by decide)) (Nat.le_of_ble_eq_true rfl) ?_
  refine pE_aload_n dX1_init_0 rfl rfl ?_
  refine pE_objInit dX1_init_1 lkX1_1 lkObj.1 lkObj.2 (by decide) (Nat.le_of_ble_eq_true rfl) ?_
  refine pE_aload_n dX1_init_4 rfl rfl ?_
  refine pE_sipush (v := nI 300) dX1_init_5 rfl ?_
  refine pE_newAT (m := 30) dX1_init_8 (by simp) ka_int rfl (by decide) (by decide) (by decide) (by exact hz _ (by decide)) ?_
  refine pE_putRF dX1_init_10 flX1_9 ftX1 fiX1_0 ⟨rfl, _, rfl, rfl, pT1_1 113 rfl rfl⟩ (pRt_a _) rfl (by first | assumption | rfl) ?_
  refine pE_aload_n dX1_init_13 rfl rfl ?_
  refine pE_sipush (v := nI 300) dX1_init_14 rfl ?_
  refine pE_newAT (m := 31) dX1_init_17 (by simp) ka_int rfl (by decide) (by decide) (by decide) (by exact hz _ (by decide)) ?_
  refine pE_putRF dX1_init_19 flX1_13 ftX1 fiX1_1 ⟨rfl, _, rfl, rfl, pT1_1 114 rfl rfl⟩ (pRt_a _) rfl (by first | assumption | rfl) ?_
  refine pE_aload_n dX1_init_22 rfl rfl ?_
  refine pE_iconst (v := nI 0) dX1_init_23 rfl ?_
  refine pE_putI dX1_init_24 flX1_16 ftX1 fiX1_2 rfl rfl (by first | assumption | rfl) ?_
  rw [pu_z (by exact (congrFun (hz _ (by decide)) _).trans nI_0.symm)]
  refine pE_aload_n dX1_init_27 rfl rfl ?_
  refine pE_bipush (v := nI 32) dX1_init_28 rfl ?_
  refine pE_newAT (m := 32) dX1_init_30 (by simp) ka_int rfl (by decide) (by decide) (by decide) (by exact hz _ (by decide)) ?_
  refine pE_putRF dX1_init_32 flX1_20 ftX1 fiX1_3 ⟨rfl, _, rfl, rfl, pT1_1 116 rfl rfl⟩ (pRt_a _) rfl (by first | assumption | rfl) ?_
  refine pE_aload_n dX1_init_35 rfl rfl ?_
  refine pE_iconst (v := nI 0) dX1_init_36 rfl ?_
  refine pE_putI dX1_init_37 flX1_23 ftX1 fiX1_4 rfl rfl (by first | assumption | rfl) ?_
  rw [pu_z (by exact (congrFun (hz _ (by decide)) _).trans nI_0.symm)]
  refine pE_vret dX1_init_40 rfl rfl ?_
  exact hq
set_option maxHeartbeats 400000 in
set_option maxRecDepth 100000 in
theorem M_X9_init_33 {l : Launch} {X : pX} {I : pHI} {R : pHR} {Q : pQ} (hz : ∀ c, 33 ≤ c → I c = fun _ => 0) (hr : ∀ c, 33 ≤ c → R c = fun _ => none) (hq : Q none I jz (pu (pu (pu R 33 0 (some 34)) 33 1 (some 35)) 33 2 (some 36))) : pM l X yX9_init mX9_init 1 [.ref 33] (pK.take 34) (pK.take 37) I jz R Q := by
  refine pM_of rfl (fun _ => rfl) rfl (pT3 (by decide) (by decide)) (Nat.le_of_ble_eq_true rfl) ?_
  refine pE_aload_n dX9_init_0 rfl rfl ?_
  refine pE_objInit dX9_init_1 lkX9_3 lkObj.1 lkObj.2 (by decide) (Nat.le_of_ble_eq_true rfl) ?_
  refine pE_aload_n dX9_init_4 rfl rfl ?_
  refine pE_bipush (v := nI 8) dX9_init_5 rfl ?_
  refine pE_newAT (m := 34) dX9_init_7 (by simp) ka_int rfl (by decide) (by decide) (by decide) (by exact hz _ (by decide)) ?_
  refine pE_putRF dX9_init_9 flX9_9 ftX9 fiX9_0 ⟨rfl, _, rfl, rfl, pT1_1 221 rfl rfl⟩ (pRt_a _) rfl (by first | assumption | rfl) ?_
  refine pE_aload_n dX9_init_12 rfl rfl ?_
  refine pE_bipush (v := nI 8) dX9_init_13 rfl ?_
  refine pE_newAT (m := 35) dX9_init_15 (by simp) ka_int rfl (by decide) (by decide) (by decide) (by exact hz _ (by decide)) ?_
  refine pE_putRF dX9_init_17 flX9_15 ftX9 fiX9_1 ⟨rfl, _, rfl, rfl, pT1_1 225 rfl rfl⟩ (pRt_a _) rfl (by first | assumption | rfl) ?_
  refine pE_aload_n dX9_init_20 rfl rfl ?_
  refine pE_bipush (v := nI 8) dX9_init_21 rfl ?_
  refine pE_newAT (m := 36) dX9_init_23 (by simp) ka_int rfl (by decide) (by decide) (by decide) (by exact hz _ (by decide)) ?_
  refine pE_putRF dX9_init_25 flX9_18 ftX9 fiX9_2 ⟨rfl, _, rfl, rfl, pT1_1 229 rfl rfl⟩ (pRt_a _) rfl (by first | assumption | rfl) ?_
  refine pE_aload_n dX9_init_28 rfl rfl ?_
  refine pE_iconst (v := nI 0) dX9_init_29 rfl ?_
  refine pE_putI dX9_init_30 flX9_21 ftX9 fiX9_3 rfl rfl (by first | assumption | rfl) ?_
  rw [pu_z (by exact (congrFun (hz _ (by decide)) _).trans nI_0.symm)]
  refine pE_aload_n dX9_init_33 rfl rfl ?_
  refine pE_iconst (v := nI 0) dX9_init_34 rfl ?_
  refine pE_putI dX9_init_35 flX9_25 ftX9 fiX9_4 rfl rfl (by first | assumption | rfl) ?_
  rw [pu_z (by exact (congrFun (hz _ (by decide)) _).trans nI_0.symm)]
  refine pE_aload_n dX9_init_38 rfl rfl ?_
  refine pE_iconst (v := nI 0) dX9_init_39 rfl ?_
  refine pE_putI dX9_init_40 flX9_28 ftX9 fiX9_5 rfl rfl (by first | assumption | rfl) ?_
  rw [pu_z (by exact (congrFun (hz _ (by decide)) _).trans nI_0.symm)]
  refine pE_aload_n dX9_init_43 rfl rfl ?_
  refine pE_iconst (v := nI 0) dX9_init_44 rfl ?_
  refine pE_putI dX9_init_45 flX9_31 ftX9 fiX9_6 rfl rfl (by first | assumption | rfl) ?_
  rw [pu_z (by exact (congrFun (hz _ (by decide)) _).trans nI_0.symm)]
  refine pE_vret dX9_init_48 rfl rfl ?_
  exact hq
set_option maxHeartbeats 400000 in
set_option maxRecDepth 100000 in
theorem M_X9_init_37 {l : Launch} {X : pX} {I : pHI} {R : pHR} {Q : pQ} (hz : ∀ c, 37 ≤ c → I c = fun _ => 0) (hr : ∀ c, 37 ≤ c → R c = fun _ => none) (hq : Q none I jz (pu (pu (pu R 37 0 (some 38)) 37 1 (some 39)) 37 2 (some 40))) : pM l X yX9_init mX9_init 1 [.ref 37] (pK.take 38) (pK.take 41) I jz R Q := by
  refine pM_of rfl (fun _ => rfl) rfl (pT3 (by decide) (by decide)) (Nat.le_of_ble_eq_true rfl) ?_
  refine pE_aload_n dX9_init_0 rfl rfl ?_
  refine pE_objInit dX9_init_1 lkX9_3 lkObj.1 lkObj.2 (by decide) (Nat.le_of_ble_eq_true rfl) ?_
  refine pE_aload_n dX9_init_4 rfl rfl ?_
  refine pE_bipush (v := nI 8) dX9_init_5 rfl ?_
  refine pE_newAT (m := 38) dX9_init_7 (by simp) ka_int rfl (by decide) (by decide) (by decide) (by exact hz _ (by decide)) ?_
  refine pE_putRF dX9_init_9 flX9_9 ftX9 fiX9_0 ⟨rfl, _, rfl, rfl, pT1_1 221 rfl rfl⟩ (pRt_a _) rfl (by first | assumption | rfl) ?_
  refine pE_aload_n dX9_init_12 rfl rfl ?_
  refine pE_bipush (v := nI 8) dX9_init_13 rfl ?_
  refine pE_newAT (m := 39) dX9_init_15 (by simp) ka_int rfl (by decide) (by decide) (by decide) (by exact hz _ (by decide)) ?_
  refine pE_putRF dX9_init_17 flX9_15 ftX9 fiX9_1 ⟨rfl, _, rfl, rfl, pT1_1 225 rfl rfl⟩ (pRt_a _) rfl (by first | assumption | rfl) ?_
  refine pE_aload_n dX9_init_20 rfl rfl ?_
  refine pE_bipush (v := nI 8) dX9_init_21 rfl ?_
  refine pE_newAT (m := 40) dX9_init_23 (by simp) ka_int rfl (by decide) (by decide) (by decide) (by exact hz _ (by decide)) ?_
  refine pE_putRF dX9_init_25 flX9_18 ftX9 fiX9_2 ⟨rfl, _, rfl, rfl, pT1_1 229 rfl rfl⟩ (pRt_a _) rfl (by first | assumption | rfl) ?_
  refine pE_aload_n dX9_init_28 rfl rfl ?_
  refine pE_iconst (v := nI 0) dX9_init_29 rfl ?_
  refine pE_putI dX9_init_30 flX9_21 ftX9 fiX9_3 rfl rfl (by first | assumption | rfl) ?_
  rw [pu_z (by exact (congrFun (hz _ (by decide)) _).trans nI_0.symm)]
  refine pE_aload_n dX9_init_33 rfl rfl ?_
  refine pE_iconst (v := nI 0) dX9_init_34 rfl ?_
  refine pE_putI dX9_init_35 flX9_25 ftX9 fiX9_4 rfl rfl (by first | assumption | rfl) ?_
  rw [pu_z (by exact (congrFun (hz _ (by decide)) _).trans nI_0.symm)]
  refine pE_aload_n dX9_init_38 rfl rfl ?_
  refine pE_iconst (v := nI 0) dX9_init_39 rfl ?_
  refine pE_putI dX9_init_40 flX9_28 ftX9 fiX9_5 rfl rfl (by first | assumption | rfl) ?_
  rw [pu_z (by exact (congrFun (hz _ (by decide)) _).trans nI_0.symm)]
  refine pE_aload_n dX9_init_43 rfl rfl ?_
  refine pE_iconst (v := nI 0) dX9_init_44 rfl ?_
  refine pE_putI dX9_init_45 flX9_31 ftX9 fiX9_6 rfl rfl (by first | assumption | rfl) ?_
  rw [pu_z (by exact (congrFun (hz _ (by decide)) _).trans nI_0.symm)]
  refine pE_vret dX9_init_48 rfl rfl ?_
  exact hq
set_option maxHeartbeats 400000 in
set_option maxRecDepth 100000 in
theorem M_X0_init_47 {l : Launch} {X : pX} {I : pHI} {R : pHR} {Q : pQ} (hz : ∀ c, 47 ≤ c → I c = fun _ => 0) (hr : ∀ c, 47 ≤ c → R c = fun _ => none) (hq : Q none I jz (pu (pu (pu (pu (pu (pu R 47 0 (some 48)) 47 1 (some 49)) 47 2 (some 50)) 47 3 (some 51)) 47 4 (some 52)) 47 13 (some 53))) : pM l X yX0_init mX0_init 1 [.ref 47] (pK.take 48) (pK.take 54) I jz R Q := by
  refine pM_of rfl (fun _ => rfl) rfl (pT3 (by decide) (by decide)) (Nat.le_of_ble_eq_true rfl) ?_
  refine pE_aload_n dX0_init_0 rfl rfl ?_
  refine pE_objInit dX0_init_1 lkX0_3 lkObj.1 lkObj.2 (by decide) (Nat.le_of_ble_eq_true rfl) ?_
  refine pE_aload_n dX0_init_4 rfl rfl ?_
  refine pE_bipush (v := nI 30) dX0_init_5 rfl ?_
  refine pE_newAT (m := 48) dX0_init_7 (by simp) ka_boolean rfl (by decide) (by decide) (by decide) (by exact hz _ (by decide)) ?_
  refine pE_putRF dX0_init_9 flX0_11 ftX0 fiX0_0 ⟨rfl, _, rfl, rfl, pT1_2 68 rfl rfl⟩ (pRt_a _) rfl (by first | assumption | rfl) ?_
  refine pE_aload_n dX0_init_12 rfl rfl ?_
  refine pE_bipush (v := nI 30) dX0_init_13 rfl ?_
  refine pE_newAT (m := 49) dX0_init_15 (by simp) ka_boolean rfl (by decide) (by decide) (by decide) (by exact hz _ (by decide)) ?_
  refine pE_putRF dX0_init_17 flX0_15 ftX0 fiX0_1 ⟨rfl, _, rfl, rfl, pT1_2 69 rfl rfl⟩ (pRt_a _) rfl (by first | assumption | rfl) ?_
  refine pE_aload_n dX0_init_20 rfl rfl ?_
  refine pE_bipush (v := nI 30) dX0_init_21 rfl ?_
  refine pE_newAT (m := 50) dX0_init_23 (by simp) ka_int rfl (by decide) (by decide) (by decide) (by exact hz _ (by decide)) ?_
  refine pE_putRF dX0_init_25 flX0_18 ftX0 fiX0_2 ⟨rfl, _, rfl, rfl, pT1_2 70 rfl rfl⟩ (pRt_a _) rfl (by first | assumption | rfl) ?_
  refine pE_aload_n dX0_init_28 rfl rfl ?_
  refine pE_bipush (v := nI 30) dX0_init_29 rfl ?_
  refine pE_newAT (m := 51) dX0_init_31 (by simp) ka_int rfl (by decide) (by decide) (by decide) (by exact hz _ (by decide)) ?_
  refine pE_putRF dX0_init_33 flX0_22 ftX0 fiX0_3 ⟨rfl, _, rfl, rfl, pT1_2 71 rfl rfl⟩ (pRt_a _) rfl (by first | assumption | rfl) ?_
  refine pE_aload_n dX0_init_36 rfl rfl ?_
  refine pE_bipush (v := nI 30) dX0_init_37 rfl ?_
  refine pE_newAT (m := 52) dX0_init_39 (by simp) ka_int rfl (by decide) (by decide) (by decide) (by exact hz _ (by decide)) ?_
  refine pE_putRF dX0_init_41 flX0_25 ftX0 fiX0_4 ⟨rfl, _, rfl, rfl, pT1_2 72 rfl rfl⟩ (pRt_a _) rfl (by first | assumption | rfl) ?_
  refine pE_aload_n dX0_init_44 rfl rfl ?_
  refine pE_iconst (v := nI 0) dX0_init_45 rfl ?_
  refine pE_putI dX0_init_46 flX0_28 ftX0 fiX0_5 rfl rfl (by first | assumption | rfl) ?_
  rw [pu_z (by exact (congrFun (hz _ (by decide)) _).trans nI_0.symm)]
  refine pE_aload_n dX0_init_49 rfl rfl ?_
  refine pE_iconst (v := nI 0) dX0_init_50 rfl ?_
  refine pE_putI dX0_init_51 flX0_32 ftX0 fiX0_6 rfl rfl (by first | assumption | rfl) ?_
  rw [pu_z (by exact (congrFun (hz _ (by decide)) _).trans nI_0.symm)]
  refine pE_aload_n dX0_init_54 rfl rfl ?_
  refine pE_iconst (v := nI 0) dX0_init_55 rfl ?_
  refine pE_putI dX0_init_56 flX0_35 ftX0 fiX0_7 rfl rfl (by first | assumption | rfl) ?_
  rw [pu_z (by exact (congrFun (hz _ (by decide)) _).trans nI_0.symm)]
  refine pE_aload_n dX0_init_59 rfl rfl ?_
  refine pE_iconst (v := nI 0) dX0_init_60 rfl ?_
  refine pE_putI dX0_init_61 flX0_38 ftX0 fiX0_8 rfl rfl (by first | assumption | rfl) ?_
  rw [pu_z (by exact (congrFun (hz _ (by decide)) _).trans nI_0.symm)]
  refine pE_aload_n dX0_init_64 rfl rfl ?_
  refine pE_iconst (v := nI 0) dX0_init_65 rfl ?_
  refine pE_putI dX0_init_66 flX0_41 ftX0 fiX0_9 rfl rfl (by first | assumption | rfl) ?_
  rw [pu_z (by exact (congrFun (hz _ (by decide)) _).trans nI_0.symm)]
  refine pE_aload_n dX0_init_69 rfl rfl ?_
  refine pE_iconst (v := nI 0) dX0_init_70 rfl ?_
  refine pE_putI dX0_init_71 flX0_44 ftX0 fiX0_10 rfl rfl (by first | assumption | rfl) ?_
  rw [pu_z (by exact (congrFun (hz _ (by decide)) _).trans nI_0.symm)]
  refine pE_aload_n dX0_init_74 rfl rfl ?_
  refine pE_iconst (v := nI 0) dX0_init_75 rfl ?_
  refine pE_putI dX0_init_76 flX0_47 ftX0 fiX0_11 rfl rfl (by first | assumption | rfl) ?_
  rw [pu_z (by exact (congrFun (hz _ (by decide)) _).trans nI_0.symm)]
  refine pE_aload_n dX0_init_79 rfl rfl ?_
  refine pE_iconst (v := nI 0) dX0_init_80 rfl ?_
  refine pE_putI dX0_init_81 flX0_50 ftX0 fiX0_12 rfl rfl (by first | assumption | rfl) ?_
  rw [pu_z (by exact (congrFun (hz _ (by decide)) _).trans nI_0.symm)]
  refine pE_aload_n dX0_init_84 rfl rfl ?_
  refine pE_bipush (v := nI 21) dX0_init_85 rfl ?_
  refine pE_newAT (m := 53) dX0_init_87 (by simp) ka_int rfl (by decide) (by decide) (by decide) (by exact hz _ (by decide)) ?_
  refine pE_putRF dX0_init_89 flX0_53 ftX0 fiX0_13 ⟨rfl, _, rfl, rfl, pT1_2 85 rfl rfl⟩ (pRt_a _) rfl (by first | assumption | rfl) ?_
  refine pE_vret dX0_init_92 rfl rfl ?_
  exact hq
set_option maxHeartbeats 400000 in
set_option maxRecDepth 100000 in
theorem M_X3_init_41 {l : Launch} {X : pX} {I : pHI} {R : pHR} {Q : pQ} (hz : ∀ c, 41 ≤ c → I c = fun _ => 0) (hr : ∀ c, 41 ≤ c → R c = fun _ => none) (hq : Q none I jz (pu (pu (pu R 41 0 (some 42)) 41 4 (some 43)) 41 5 (some 44))) : pM l X yX3_init mX3_init 1 [.ref 41] (pK.take 42) (pK.take 45) I jz R Q := by
  refine pM_of rfl (fun _ => rfl) rfl (pT3 (by decide) (by decide)) (Nat.le_of_ble_eq_true rfl) ?_
  refine pE_aload_n dX3_init_0 rfl rfl ?_
  refine pE_objInit dX3_init_1 lkX3_3 lkObj.1 lkObj.2 (by decide) (Nat.le_of_ble_eq_true rfl) ?_
  refine pE_aload_n dX3_init_4 rfl rfl ?_
  refine pE_sipush (v := nI 1148) dX3_init_5 rfl ?_
  refine pE_newAT (m := 42) dX3_init_8 (by simp) ka_int rfl (by decide) (by decide) (by decide) (by exact hz _ (by decide)) ?_
  refine pE_putRF dX3_init_10 flX3_11 ftX3 fiX3_0 ⟨rfl, _, rfl, rfl, pT1_2 26 rfl rfl⟩ (pRt_a _) rfl (by first | assumption | rfl) ?_
  refine pE_aload_n dX3_init_13 rfl rfl ?_
  refine pE_iconst (v := nI 0) dX3_init_14 rfl ?_
  refine pE_putI dX3_init_15 flX3_15 ftX3 fiX3_1 rfl rfl (by first | assumption | rfl) ?_
  rw [pu_z (by exact (congrFun (hz _ (by decide)) _).trans nI_0.symm)]
  refine pE_aload_n dX3_init_18 rfl rfl ?_
  refine pE_iconst (v := nI 0) dX3_init_19 rfl ?_
  refine pE_putI dX3_init_20 flX3_19 ftX3 fiX3_2 rfl rfl (by first | assumption | rfl) ?_
  rw [pu_z (by exact (congrFun (hz _ (by decide)) _).trans nI_0.symm)]
  refine pE_aload_n dX3_init_23 rfl rfl ?_
  refine pE_iconst (v := nI 0) dX3_init_24 rfl ?_
  refine pE_putI dX3_init_25 flX3_22 ftX3 fiX3_3 rfl rfl (by first | assumption | rfl) ?_
  rw [pu_z (by exact (congrFun (hz _ (by decide)) _).trans nI_0.symm)]
  refine pE_aload_n dX3_init_28 rfl rfl ?_
  refine pE_bipush (v := nI 84) dX3_init_29 rfl ?_
  refine pE_newAT (m := 43) dX3_init_31 (by simp) ka_int rfl (by decide) (by decide) (by decide) (by exact hz _ (by decide)) ?_
  refine pE_putRF dX3_init_33 flX3_25 ftX3 fiX3_4 ⟨rfl, _, rfl, rfl, pT1_2 32 rfl rfl⟩ (pRt_a _) rfl (by first | assumption | rfl) ?_
  refine pE_aload_n dX3_init_36 rfl rfl ?_
  refine pE_iconst (v := nI 3) dX3_init_37 rfl ?_
  refine pE_newAT (m := 44) dX3_init_38 (by simp) ka_boolean rfl (by decide) (by decide) (by decide) (by exact hz _ (by decide)) ?_
  refine pE_putRF dX3_init_40 flX3_28 ftX3 fiX3_5 ⟨rfl, _, rfl, rfl, pT1_2 33 rfl rfl⟩ (pRt_a _) rfl (by first | assumption | rfl) ?_
  refine pE_vret dX3_init_43 rfl rfl ?_
  exact hq
set_option maxHeartbeats 400000 in
set_option maxRecDepth 100000 in
theorem M_X4_init_62 {l : Launch} {X : pX} {I : pHI} {R : pHR} {Q : pQ} (hz : ∀ c, 62 ≤ c → I c = fun _ => 0) (hr : ∀ c, 62 ≤ c → R c = fun _ => none) (hq : Q none I jz (pu (pu (pu (pu R 62 0 (some 63)) 62 1 (some 64)) 62 2 (some 65)) 62 3 (some 66))) : pM l X yX4_init mX4_init 1 [.ref 62] (pK.take 63) (pK.take 67) I jz R Q := by
  refine pM_of rfl (fun _ => rfl) rfl (pT3 (by decide) (by decide)) (Nat.le_of_ble_eq_true rfl) ?_
  refine pE_aload_n dX4_init_0 rfl rfl ?_
  refine pE_objInit dX4_init_1 lkX4_3 lkObj.1 lkObj.2 (by decide) (Nat.le_of_ble_eq_true rfl) ?_
  refine pE_aload_n dX4_init_4 rfl rfl ?_
  refine pE_bipush (v := nI 8) dX4_init_5 rfl ?_
  refine pE_newAT (m := 63) dX4_init_7 (by simp) ka_int rfl (by decide) (by decide) (by decide) (by exact hz _ (by decide)) ?_
  refine pE_putRF dX4_init_9 flX4_9 ftX4 fiX4_0 ⟨rfl, _, rfl, rfl, pT1_2 162 rfl rfl⟩ (pRt_a _) rfl (by first | assumption | rfl) ?_
  refine pE_aload_n dX4_init_12 rfl rfl ?_
  refine pE_bipush (v := nI 8) dX4_init_13 rfl ?_
  refine pE_newAT (m := 64) dX4_init_15 (by simp) ka_boolean rfl (by decide) (by decide) (by decide) (by exact hz _ (by decide)) ?_
  refine pE_putRF dX4_init_17 flX4_15 ftX4 fiX4_1 ⟨rfl, _, rfl, rfl, pT1_2 163 rfl rfl⟩ (pRt_a _) rfl (by first | assumption | rfl) ?_
  refine pE_aload_n dX4_init_20 rfl rfl ?_
  refine pE_bipush (v := nI 8) dX4_init_21 rfl ?_
  refine pE_newAT (m := 65) dX4_init_23 (by simp) ka_int rfl (by decide) (by decide) (by decide) (by exact hz _ (by decide)) ?_
  refine pE_putRF dX4_init_25 flX4_19 ftX4 fiX4_2 ⟨rfl, _, rfl, rfl, pT1_2 164 rfl rfl⟩ (pRt_a _) rfl (by first | assumption | rfl) ?_
  refine pE_aload_n dX4_init_28 rfl rfl ?_
  refine pE_bipush (v := nI 8) dX4_init_29 rfl ?_
  refine pE_newAT (m := 66) dX4_init_31 (by simp) ka_int rfl (by decide) (by decide) (by decide) (by exact hz _ (by decide)) ?_
  refine pE_putRF dX4_init_33 flX4_22 ftX4 fiX4_3 ⟨rfl, _, rfl, rfl, pT1_2 165 rfl rfl⟩ (pRt_a _) rfl (by first | assumption | rfl) ?_
  refine pE_vret dX4_init_36 rfl rfl ?_
  exact hq
set_option maxHeartbeats 400000 in
set_option maxRecDepth 100000 in
theorem M_X5_init_45 {l : Launch} {X : pX} {I : pHI} {R : pHR} {Q : pQ} (hz : ∀ c, 45 ≤ c → I c = fun _ => 0) (hr : ∀ c, 45 ≤ c → R c = fun _ => none) (hq : Q none I jz (pu R 45 0 (some 46))) : pM l X yX5_init mX5_init 1 [.ref 45] (pK.take 46) (pK.take 47) I jz R Q := by
  refine pM_of rfl (fun _ => rfl) rfl (pT3 (by decide) (by decide)) (Nat.le_of_ble_eq_true rfl) ?_
  refine pE_aload_n dX5_init_0 rfl rfl ?_
  refine pE_objInit dX5_init_1 lkX5_3 lkObj.1 lkObj.2 (by decide) (Nat.le_of_ble_eq_true rfl) ?_
  refine pE_aload_n dX5_init_4 rfl rfl ?_
  refine pE_bipush (v := nI 8) dX5_init_5 rfl ?_
  refine pE_newAT (m := 46) dX5_init_7 (by simp) ka_int rfl (by decide) (by decide) (by decide) (by exact hz _ (by decide)) ?_
  refine pE_putRF dX5_init_9 flX5_9 ftX5 fiX5_0 ⟨rfl, _, rfl, rfl, pT1_2 54 rfl rfl⟩ (pRt_a _) rfl (by first | assumption | rfl) ?_
  refine pE_aload_n dX5_init_12 rfl rfl ?_
  refine pE_iconst (v := nI 0) dX5_init_13 rfl ?_
  refine pE_putI dX5_init_14 flX5_15 ftX5 fiX5_1 rfl rfl (by first | assumption | rfl) ?_
  rw [pu_z (by exact (congrFun (hz _ (by decide)) _).trans nI_0.symm)]
  refine pE_vret dX5_init_17 rfl rfl ?_
  exact hq
set_option maxHeartbeats 400000 in
set_option maxRecDepth 100000 in
theorem M_X6_init_54 {l : Launch} {X : pX} {I : pHI} {R : pHR} {Q : pQ} (hz : ∀ c, 54 ≤ c → I c = fun _ => 0) (hr : ∀ c, 54 ≤ c → R c = fun _ => none) (hq : Q none I jz (pu (pu (pu (pu R 54 1 (some 55)) 54 2 (some 56)) 54 3 (some 57)) 54 4 (some 58))) : pM l X yX6_init mX6_init 1 [.ref 54] (pK.take 55) (pK.take 59) I jz R Q := by
  refine pM_of rfl (fun _ => rfl) rfl (pT3 (by decide) (by decide)) (Nat.le_of_ble_eq_true rfl) ?_
  refine pE_aload_n dX6_init_0 rfl rfl ?_
  refine pE_objInit dX6_init_1 lkX6_3 lkObj.1 lkObj.2 (by decide) (Nat.le_of_ble_eq_true rfl) ?_
  refine pE_aload_n dX6_init_4 rfl rfl ?_
  refine pE_iconst (v := nI 0) dX6_init_5 rfl ?_
  refine pE_putI dX6_init_6 flX6_9 ftX6 fiX6_0 rfl rfl (by first | assumption | rfl) ?_
  rw [pu_z (by exact (congrFun (hz _ (by decide)) _).trans nI_0.symm)]
  refine pE_aload_n dX6_init_9 rfl rfl ?_
  refine pE_bipush (v := nI 8) dX6_init_10 rfl ?_
  refine pE_newAT (m := 55) dX6_init_12 (by simp) ka_int rfl (by decide) (by decide) (by decide) (by exact hz _ (by decide)) ?_
  refine pE_putRF dX6_init_14 flX6_15 ftX6 fiX6_1 ⟨rfl, _, rfl, rfl, pT1_2 122 rfl rfl⟩ (pRt_a _) rfl (by first | assumption | rfl) ?_
  refine pE_aload_n dX6_init_17 rfl rfl ?_
  refine pE_bipush (v := nI 8) dX6_init_18 rfl ?_
  refine pE_newAT (m := 56) dX6_init_20 (by simp) ka_int rfl (by decide) (by decide) (by decide) (by exact hz _ (by decide)) ?_
  refine pE_putRF dX6_init_22 flX6_19 ftX6 fiX6_2 ⟨rfl, _, rfl, rfl, pT1_2 123 rfl rfl⟩ (pRt_a _) rfl (by first | assumption | rfl) ?_
  refine pE_aload_n dX6_init_25 rfl rfl ?_
  refine pE_bipush (v := nI 8) dX6_init_26 rfl ?_
  refine pE_newAT (m := 57) dX6_init_28 (by simp) ka_int rfl (by decide) (by decide) (by decide) (by exact hz _ (by decide)) ?_
  refine pE_putRF dX6_init_30 flX6_22 ftX6 fiX6_3 ⟨rfl, _, rfl, rfl, pT1_2 124 rfl rfl⟩ (pRt_a _) rfl (by first | assumption | rfl) ?_
  refine pE_aload_n dX6_init_33 rfl rfl ?_
  refine pE_sipush (v := nI 2304) dX6_init_34 rfl ?_
  refine pE_newAT (m := 58) dX6_init_37 (by simp) ka_int rfl (by decide) (by decide) (by decide) (by exact hz _ (by decide)) ?_
  refine pE_putRF dX6_init_39 flX6_25 ftX6 fiX6_4 ⟨rfl, _, rfl, rfl, pT1_2 125 rfl rfl⟩ (pRt_a _) rfl (by first | assumption | rfl) ?_
  refine pE_vret dX6_init_42 rfl rfl ?_
  exact hq
set_option maxHeartbeats 400000 in
set_option maxRecDepth 100000 in
theorem M_X7_init_59 {l : Launch} {X : pX} {I : pHI} {R : pHR} {Q : pQ} (hz : ∀ c, 59 ≤ c → I c = fun _ => 0) (hr : ∀ c, 59 ≤ c → R c = fun _ => none) (hq : Q none I jz (pu (pu R 59 2 (some 60)) 59 3 (some 61))) : pM l X yX7_init mX7_init 1 [.ref 59] (pK.take 60) (pK.take 62) I jz R Q := by
  refine pM_of rfl (fun _ => rfl) rfl (pT3 (by decide) (by decide)) (Nat.le_of_ble_eq_true rfl) ?_
  refine pE_aload_n dX7_init_0 rfl rfl ?_
  refine pE_objInit dX7_init_1 lkX7_3 lkObj.1 lkObj.2 (by decide) (Nat.le_of_ble_eq_true rfl) ?_
  refine pE_aload_n dX7_init_4 rfl rfl ?_
  refine pE_iconst (v := nI 0) dX7_init_5 rfl ?_
  refine pE_putI dX7_init_6 flX7_9 ftX7 fiX7_0 rfl rfl (by first | assumption | rfl) ?_
  rw [pu_z (by exact (congrFun (hz _ (by decide)) _).trans nI_0.symm)]
  refine pE_aload_n dX7_init_9 rfl rfl ?_
  refine pE_iconst (v := nI 0) dX7_init_10 rfl ?_
  refine pE_putI dX7_init_11 flX7_15 ftX7 fiX7_1 rfl rfl (by first | assumption | rfl) ?_
  rw [pu_z (by exact (congrFun (hz _ (by decide)) _).trans nI_0.symm)]
  refine pE_aload_n dX7_init_14 rfl rfl ?_
  refine pE_sipush (v := nI 861) dX7_init_15 rfl ?_
  refine pE_newAT (m := 60) dX7_init_18 (by simp) ka_int rfl (by decide) (by decide) (by decide) (by exact hz _ (by decide)) ?_
  refine pE_putRF dX7_init_20 flX7_18 ftX7 fiX7_2 ⟨rfl, _, rfl, rfl, pT1_2 145 rfl rfl⟩ (pRt_a _) rfl (by first | assumption | rfl) ?_
  refine pE_aload_n dX7_init_23 rfl rfl ?_
  refine pE_sipush (v := nI 205) dX7_init_24 rfl ?_
  refine pE_newAT (m := 61) dX7_init_27 (by simp) ka_int rfl (by decide) (by decide) (by decide) (by exact hz _ (by decide)) ?_
  refine pE_putRF dX7_init_29 flX7_22 ftX7 fiX7_3 ⟨rfl, _, rfl, rfl, pT1_2 146 rfl rfl⟩ (pRt_a _) rfl (by first | assumption | rfl) ?_
  refine pE_vret dX7_init_32 rfl rfl ?_
  exact hq
