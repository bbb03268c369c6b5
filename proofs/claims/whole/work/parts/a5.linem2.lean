def mHn (H : pN) (I : pHI) : Prop := I 67 37 = nI (H 0) ∧ I 67 38 = nI (H 2) ∧ I 67 39 = nI (H 1) ∧ I 67 40 = nI (H 3) ∧ I 67 22 = nI (H 4) ∧ ∀ j, j < H 1 → I 80 j = nI (H (8 + j)) ∧ I 81 j = nI (H (16 + j)) ∧ I 82 j = nI (H (24 + j)) ∧ I 83 j = nI (H (32 + j)) ∧ I 84 j = nI (H (40 + j))
def mDt (I : pHI) (J : pHJ) (D : pDt) : Prop := mHn D.1 I ∧ I 78 0 = nI (if D.2.2.1 = none then 0 else 1) ∧ I 78 1 = nI (if D.2.2.2.1 = none then 0 else 1) ∧ I 67 44 = nI (if D.2.2.2.2 = false then 0 else 1) ∧ mNm D.2.1 J ∧ (∀ w, D.2.2.1 = some w → mG 0 w I) ∧ (∀ w, D.2.2.2.1 = some w → mG 1 w I)
theorem mHn.fr {H : pN} {I I1 : pHI} (h : mHn H I) (h0 : ∀ k, k = 22 ∨ (37 ≤ k ∧ k ≤ 40) → I1 67 k = I 67 k) (h1 : ∀ c i, 80 ≤ c → c ≤ 84 → I1 c i = I c i) : mHn H I1 := by
  obtain ⟨a, b, c, d, e, f⟩ := h
  refine ⟨(h0 37 (by omega)).trans a, (h0 38 (by omega)).trans b, (h0 39 (by omega)).trans c, (h0 40 (by omega)).trans d, (h0 22 (by omega)).trans e, fun j hj => ?_⟩
  rw [h1 80 j (by omega) (by omega), h1 81 j (by omega) (by omega), h1 82 j (by omega) (by omega), h1 83 j (by omega) (by omega), h1 84 j (by omega) (by omega)]
  exact f j hj
theorem mDt.fr {D : pDt} {I I1 : pHI} {J J1 : pHJ} (h : mDt I J D) (h0 : ∀ k, k = 22 ∨ (37 ≤ k ∧ k ≤ 40) ∨ k = 44 → I1 67 k = I 67 k) (h1 : ∀ c i, (70 ≤ c ∧ c ≤ 72) ∨ c = 78 ∨ (80 ≤ c ∧ c ≤ 84) → I1 c i = I c i) (hj : mNm D.2.1 J1) : mDt I1 J1 D := by
  obtain ⟨a, b, c, d, e, f, g⟩ := h
  refine ⟨a.fr (fun k hk => h0 k (by omega)) (fun c i x y => h1 c i (by omega)), (h1 78 0 (by omega)).trans b, (h1 78 1 (by omega)).trans c, (h0 44 (by omega)).trans d, hj, fun w hw => (f w hw).fr (h1 72 _ (by omega)) (fun i _ => ⟨h1 70 _ (by omega), h1 71 _ (by omega)⟩), fun w hw => (g w hw).fr (h1 72 _ (by omega)) (fun i _ => ⟨h1 70 _ (by omega), h1 71 _ (by omega)⟩)⟩
theorem mDt.r {D : pDt} {I I1 : pHI} {J J1 : pHJ} (h : mDt I J D) (hx : sMR I I1) (hj : jM J J1) : mDt I1 J1 D :=
  h.fr (fun k hk => hx 67 k (by omega)) (fun c i hc => hx c i (by omega)) (h.2.2.2.2.1.m hj)
theorem mHn.r {H : pN} {I I1 : pHI} (h : mHn H I) (hx : sMR I I1) : mHn H I1 := h.fr (fun k hk => hx 67 k (by omega)) (fun c i _ _ => hx c i (by omega))
/-- the tenant that is being told: his numbers, one more of them each *) -/
def mTn (H : pN) (t m : Nat) (v : Nat → Nat) (I : pHI) : Prop := ∀ i, i < m → I (80 + i) t = nI (v i)
theorem mHn.st {H : pN} {c t : Nat} {x : Int32} {I : pHI} (h : mHn H I) (hc : 80 ≤ c) (ht : H 1 ≤ t) : mHn H (pu I c t x) := by
  obtain ⟨a, b, c0, d, e, f⟩ := h
  refine ⟨?_, ?_, ?_, ?_, ?_, fun j hj => ?_⟩
  · rw [pu_ne _ _ _ (by omega)]; exact a
  · rw [pu_ne _ _ _ (by omega)]; exact b
  · rw [pu_ne _ _ _ (by omega)]; exact c0
  · rw [pu_ne _ _ _ (by omega)]; exact d
  · rw [pu_ne _ _ _ (by omega)]; exact e
  · rw [pu_at, if_neg (by omega), pu_at, if_neg (by omega), pu_at, if_neg (by omega), pu_at, if_neg (by omega), pu_at, if_neg (by omega)]; exact f j hj
set_option maxHeartbeats 400000 in
set_option maxRecDepth 100000 in
theorem M_X12_readStoreys {l : Launch} {X : pX} {t g : Nat} {I : pHI} {J : pHJ} {Q : pQ} {n p : Nat} {B : Nat → Nat} {D : pDt} (hT : tpM I n B) (hr : mR0 B n p I J) (hk : tK B n p ≠ 1) (hD : mDt I J D) (hq : ∀ I1 J1, sML I I1 → jN J J1 → mRd B n I1 J1 (stL B n p D).1 → (∀ q, (stL B n p D).1 = .inr q → mDt I1 J1 (stL B n p D).2) → Q none I1 J1 (pR t g)) : pM l X yX12_readStoreys mX12_readStoreys 6 [.ref 67] pK pK I J (pR t g) Q := by
  refine pM_of rfl (fun h => by cases h) rfl pKM (Nat.le_of_ble_eq_true rfl) ?_
  refine pE_aload_n dX12_readStoreys_0 rfl rfl ?_
  refine pE_callV (d' := 2) (as := []) dX12_readStoreys_1 lkX12_230 (cwX12_token _ _) ivX12_token ⟨_, rfl, rfl⟩ (by first | assumption | rfl) rfl rfl (Nat.le_of_ble_eq_true rfl) (by decide) pKK ?_
  refine M_X12_tokenN hT hr hk (fun I1 J1 x1 y1 x2 => ?_)
  have hr1 : mRd B n I1 J1 (stp B n p) := x2.rd
  refine pE_aload_n dX12_readStoreys_4 rfl rfl ?_
  refine pE_aload_n dX12_readStoreys_5 rfl rfl ?_
  refine pE_iconst (v := nI 1) dX12_readStoreys_6 rfl ?_
  refine pE_bipush (v := nI 20) dX12_readStoreys_7 rfl ?_
  refine pE_callV (d' := 3) (as := [_, _]) dX12_readStoreys_9 lkX12_237 (cwX12_toldNumber _ _) ivX12_toldNumber ⟨_, rfl, rfl⟩ (by first | assumption | rfl) rfl rfl (Nat.le_of_ble_eq_true rfl) (by decide) pKK ?_
  refine M_X12_toldNumber (hT.r x1) hr1 (lo := 1) (hi := 20) (by omega) (by omega) (fun I2 J2 x x3 y3 z3 w3 => ?_)
  have hT2 : tpM (pu I2 67 37 x) n B := ((hT.r x1).r x3).fr (by rw [pu_at, if_neg (by omega)]) (fun i => by rw [pu_ne _ _ _ (by decide)])
  refine pE_putI dX12_readStoreys_12 flX12_312 ftX12 fiX12_37 rfl rfl (by first | assumption | rfl) ?_
  refine pE_aload_n dX12_readStoreys_15 rfl rfl ?_
  refine pE_aload_n dX12_readStoreys_16 rfl rfl ?_
  refine pE_ldc2 dX12_readStoreys_17 kcX12_187 ?_
  rw [show (1818846836 : Int64) = mwJ (kwL 2) from mwk.2.1.symm]
  refine pE_aload_n dX12_readStoreys_20 rfl rfl ?_
  refine pE_getI dX12_readStoreys_21 flX12_312 rfl (Or.inl rfl) (by first | assumption | rfl) ?_
  refine pE_callV (d' := 5) (as := [_, _]) dX12_readStoreys_24 lkX12_315 (cwX12_option _ _) ivX12_option ⟨_, rfl, rfl⟩ (by first | assumption | rfl) rfl rfl (Nat.le_of_ble_eq_true rfl) (by decide) pKK ?_
  refine M_X12_optionX hT2 (z3.fr (fun k hk => by rw [pu_at, if_neg (by omega)])) (show 2 ∈ ownI by decide) (hi := if vlN B n (stp B n p) ≤ 20 then vlN B n (stp B n p) else 0) (by split <;> omega) (fun q hq2 => by
    have e := w3 q hq2
    have v := rdN_v hq2
    rw [if_pos v.2, pu_at, if_pos ⟨rfl, rfl⟩]; exact e) (fun I4 J4 y x5 y5 z5 w5 => ?_)
  refine pE_putI dX12_readStoreys_27 flX12_319 ftX12 fiX12_38 rfl rfl (by first | assumption | rfl) ?_
  refine pE_vret dX12_readStoreys_30 rfl rfl ?_
  have hfr : ∀ c k, ¬ (c = 67 ∧ (k = 37 ∨ k = 38 ∨ k = 2 ∨ k = 3 ∨ k = 4 ∨ (6 ≤ k ∧ k ≤ 8))) → pu I4 67 38 y c k = I c k := fun c k z => by
    rw [pu_at, if_neg (by omega), x5 c k (by omega), pu_at, if_neg (by omega), x3 c k (by omega), x1 c k (by omega)]
  have hm : opN B n 2 (if vlN B n (stp B n p) ≤ 20 then vlN B n (stp B n p) else 0) (rdN B n 1 20 (stp B n p)) = (stL B n p D).1 := by
    show _ = opN B n 2 (vlN B n (stp B n p)) (rdN B n 1 20 (stp B n p))
    cases e : rdN B n 1 20 (stp B n p) with
    | inl a => rfl
    | inr a => rw [if_pos (rdN_v e).2]
  rw [hm] at z5 w5
  refine hq _ J4 (fun c k a b d e f => hfr c k (fun z => a ⟨z.1, by omega⟩)) (y1.n.tr (y3.n.tr y5.n)) (z5.fr (fun k hk => by rw [pu_at, if_neg (by omega)])) (fun q hh => ?_)
  obtain ⟨q2, h2⟩ := (opN_v (show opN B n 2 (vlN B n (stp B n p)) (rdN B n 1 20 (stp B n p)) = .inr q from hh)).2
  have e1 := w3 q2 h2
  have e2 := w5 q hh
  obtain ⟨a, b, c, d, e, f, g2⟩ := hD
  refine ⟨?_, (hfr _ _ (by omega)).trans b, (hfr _ _ (by omega)).trans c, (hfr _ _ (by omega)).trans d, ((e.m y1).m y3).m y5, fun w hw => (f w hw).fr (hfr _ _ (by omega)) (fun i _ => ⟨hfr _ _ (by omega), hfr _ _ (by omega)⟩), fun w hw => (g2 w hw).fr (hfr _ _ (by omega)) (fun i _ => ⟨hfr _ _ (by omega), hfr _ _ (by omega)⟩)⟩
  obtain ⟨a1, a2, a3, a4, a5, a6⟩ := a
  refine ⟨?_, ?_, ?_, ?_, ?_, fun j hj => ?_⟩
  · rw [pu_at, if_neg (by omega), x5 _ _ (by omega), pu_at, if_pos ⟨rfl, rfl⟩, e1]
    show _ = nI (upN (upN D.1 0 (vlN B n (stp B n p))) 2 (opV B n 2 (rdN B n 1 20 (stp B n p))) 0)
    rw [upN_n (by omega), upN_e]
  · rw [pu_at, if_pos ⟨rfl, rfl⟩, e2]
    show _ = nI (upN (upN D.1 0 (vlN B n (stp B n p))) 2 (opV B n 2 (rdN B n 1 20 (stp B n p))) 2)
    rw [upN_e]
  · rw [hfr _ _ (by omega), a3]
    show _ = nI (upN (upN D.1 0 (vlN B n (stp B n p))) 2 (opV B n 2 (rdN B n 1 20 (stp B n p))) 1)
    rw [upN_n (by omega), upN_n (by omega)]
  · rw [hfr _ _ (by omega), a4]
    show _ = nI (upN (upN D.1 0 (vlN B n (stp B n p))) 2 (opV B n 2 (rdN B n 1 20 (stp B n p))) 3)
    rw [upN_n (by omega), upN_n (by omega)]
  · rw [hfr _ _ (by omega), a5]
    show _ = nI (upN (upN D.1 0 (vlN B n (stp B n p))) 2 (opV B n 2 (rdN B n 1 20 (stp B n p))) 4)
    rw [upN_n (by omega), upN_n (by omega)]
  · have u : ∀ m, m ≠ 0 → m ≠ 2 → (stL B n p D).2.1 m = D.1 m := fun m h1 h2 => by
      show upN (upN D.1 0 (vlN B n (stp B n p))) 2 (opV B n 2 (rdN B n 1 20 (stp B n p))) m = D.1 m
      rw [upN_n h2, upN_n h1]
    rw [u 1 (by omega) (by omega)] at hj
    rw [u (8 + j) (by omega) (by omega), u (16 + j) (by omega) (by omega), u (24 + j) (by omega) (by omega), u (32 + j) (by omega) (by omega), u (40 + j) (by omega) (by omega), hfr _ _ (by omega), hfr _ _ (by omega), hfr _ _ (by omega), hfr _ _ (by omega), hfr _ _ (by omega)]
    exact a6 j hj
set_option maxHeartbeats 400000 in
set_option maxRecDepth 100000 in
theorem M_X12_readTenant {l : Launch} {X : pX} {t g : Nat} {I : pHI} {J : pHJ} {Q : pQ} {n p : Nat} {B : Nat → Nat} {D : pDt} (hT : tpM I n B) (hr : mR0 B n p I J) (hk : tK B n p ≠ 1) (hD : mDt I J D) (hrD : rDt D) (h8 : D.1 1 < 8) (hq : ∀ I1 J1, sML I I1 → jN J J1 → mRd B n I1 J1 (tnL B n p D).1 → (∀ q, (tnL B n p D).1 = .inr q → mDt I1 J1 (tnL B n p D).2) → Q none I1 J1 (pR t g)) : pM l X yX12_readTenant mX12_readTenant 6 [.ref 67] pK pK I J (pR t g) Q := by
  have ht : D.1 1 < 8 := h8
  have hlen : D.1 1 = D.2.1.length := hrD.2.2.2.2.2.2.1.symm
  have hH := hD.1
  have hH0 := hrD.1
  have h391 : I 67 39 = nI D.2.1.length := by rw [← hlen]; exact hH.2.2.1
  refine pM_of rfl (fun h => by cases h) rfl pKM (Nat.le_of_ble_eq_true rfl) ?_
  refine pE_aload_n dX12_readTenant_0 rfl rfl ?_
  refine pE_callV (d' := 3) (as := []) dX12_readTenant_1 lkX12_322 (cwX12_newName _ _) ivX12_newName ⟨_, rfl, rfl⟩ (by first | assumption | rfl) rfl rfl (Nat.le_of_ble_eq_true rfl) (by decide) pKK ?_
  refine M_X12_newName (L := D.2.1) hT hD.2.2.2.2.1 hrD.2.2.2.2.2.2.2.1 (by rw [← hlen]; exact ht) h391 hr hk (fun I1 J1 x1 y1 z1 n1 => ?_)
  have z1 : mRd B n I1 J1 (tn0 B n p D) := z1
  have hT1 := hT.r x1
  have H1 := hH.r x1
  have f1 : sML I I1 := x1.l
  refine pE_aload_n dX12_readTenant_4 rfl rfl ?_
  refine pE_getI dX12_readTenant_5 flX12_248 rfl (Or.inl rfl) (by first | assumption | rfl) ?_
  rw [H1.2.2.1]
  refine pE_istore_n (lc' := [_, some (.int _)]) dX12_readTenant_8 rfl (Nat.le_of_ble_eq_true rfl) rfl rfl ?_
  refine pE_aload_n dX12_readTenant_9 rfl rfl ?_
  refine pE_getR dX12_readTenant_10 flX12_52 rfl (by first | assumption | rfl) (by first | assumption | rfl) ?_
  refine pE_iload_n dX12_readTenant_13 rfl rfl ?_
  refine pE_aload_n dX12_readTenant_14 rfl rfl ?_
  refine pE_ldc2 dX12_readTenant_15 kcX12_191 ?_
  rw [show (28526 : Int64) = mwJ (kwL 5) from mwk.2.2.2.1.symm]
  refine pE_iconst (v := nI 0) dX12_readTenant_18 rfl ?_
  refine pE_aload_n dX12_readTenant_19 rfl rfl ?_
  refine pE_getI dX12_readTenant_20 flX12_312 rfl (Or.inl rfl) (by first | assumption | rfl) ?_
  rw [H1.1]
  refine pE_callV (d' := 4) (as := [_, _, _]) dX12_readTenant_23 lkX12_241 (cwX12_told _ _) ivX12_told ⟨_, rfl, rfl⟩ (by first | assumption | rfl) rfl rfl (Nat.le_of_ble_eq_true rfl) (by decide) pKK ?_
  refine M_X12_told hT1 z1 (show 5 ∈ ownI by decide) (lo := 0) (hi := D.1 0) (by omega) (by omega) (fun I2 J2 v1 x2 y2 z2 w2 => ?_)
  have z2 : mRd B n I2 J2 (tn1 B n p D) := z2
  have hT2 : tpM (pu I2 80 (D.1 1) v1) n B := (hT1.r x2).fr (by rw [pu_ne _ _ _ (by decide)]) (fun i => by rw [pu_ne _ _ _ (by decide)])
  have H2 := ((H1.r x2).st (c := 80) (t := D.1 1) (x := v1) (by omega) (Nat.le_refl _))
  have f2 := (f1.tr x2.l).pa (c0 := 80) (k := D.1 1) (x := v1) (Or.inr (by omega))
  have z2 : mRd B n (pu I2 80 (D.1 1) v1) J2 (tn1 B n p D) := z2.fr (fun k hk => by rw [pu_ne _ _ _ (by decide)])
  refine pE_iastoreN dX12_readTenant_26 (by first | assumption | rfl) (by first | assumption | omega) (by omega) ?_
  refine pE_aload_n dX12_readTenant_27 rfl rfl ?_
  refine pE_getR dX12_readTenant_28 flX12_55 rfl (by first | assumption | rfl) (by first | assumption | rfl) ?_
  refine pE_iload_n dX12_readTenant_31 rfl rfl ?_
  refine pE_aload_n dX12_readTenant_32 rfl rfl ?_
  refine pE_ldc2 dX12_readTenant_33 kcX12_193 ?_
  rw [show (126943973305959 : Int64) = mwJ (kwL 6) from mwk.2.2.2.2.1.symm]
  refine pE_iconst (v := nI 0) dX12_readTenant_36 rfl ?_
  refine pE_bipush (v := nI 40) dX12_readTenant_37 rfl ?_
  refine pE_callV (d' := 4) (as := [_, _, _]) dX12_readTenant_39 lkX12_241 (cwX12_told _ _) ivX12_told ⟨_, rfl, rfl⟩ (by first | assumption | rfl) rfl rfl (Nat.le_of_ble_eq_true rfl) (by decide) pKK ?_
  refine M_X12_told hT2 z2 (show 6 ∈ ownI by decide) (lo := 0) (hi := 40) (by omega) (by omega) (fun I3 J3 v2 x3 y3 z3 w3 => ?_)
  have z3 : mRd B n I3 J3 (tn2 B n p D) := z3
  have hT3 : tpM (pu I3 81 (D.1 1) v2) n B := (hT2.r x3).fr (by rw [pu_ne _ _ _ (by decide)]) (fun i => by rw [pu_ne _ _ _ (by decide)])
  have H3 := ((H2.r x3).st (c := 81) (t := D.1 1) (x := v2) (by omega) (Nat.le_refl _))
  have f3 := (f2.tr x3.l).pa (c0 := 81) (k := D.1 1) (x := v2) (Or.inr (by omega))
  have z3 : mRd B n (pu I3 81 (D.1 1) v2) J3 (tn2 B n p D) := z3.fr (fun k hk => by rw [pu_ne _ _ _ (by decide)])
  refine pE_iastoreN dX12_readTenant_42 (by first | assumption | rfl) (by first | assumption | omega) (by omega) ?_
  refine pE_aload_n dX12_readTenant_43 rfl rfl ?_
  refine pE_getR dX12_readTenant_44 flX12_58 rfl (by first | assumption | rfl) (by first | assumption | rfl) ?_
  refine pE_iload_n dX12_readTenant_47 rfl rfl ?_
  refine pE_aload_n dX12_readTenant_48 rfl rfl ?_
  refine pE_ldc2 dX12_readTenant_49 kcX12_195 ?_
  rw [show (448377484921 : Int64) = mwJ (kwL 7) from mwk.2.2.2.2.2.1.symm]
  refine pE_iconst (v := nI 0) dX12_readTenant_52 rfl ?_
  refine pE_bipush (v := nI 9) dX12_readTenant_53 rfl ?_
  refine pE_callV (d' := 4) (as := [_, _, _]) dX12_readTenant_55 lkX12_241 (cwX12_told _ _) ivX12_told ⟨_, rfl, rfl⟩ (by first | assumption | rfl) rfl rfl (Nat.le_of_ble_eq_true rfl) (by decide) pKK ?_
  refine M_X12_told hT3 z3 (show 7 ∈ ownI by decide) (lo := 0) (hi := 9) (by omega) (by omega) (fun I4 J4 v3 x4 y4 z4 w4 => ?_)
  have z4 : mRd B n I4 J4 (tn3 B n p D) := z4
  have hT4 : tpM (pu I4 82 (D.1 1) v3) n B := (hT3.r x4).fr (by rw [pu_ne _ _ _ (by decide)]) (fun i => by rw [pu_ne _ _ _ (by decide)])
  have H4 := ((H3.r x4).st (c := 82) (t := D.1 1) (x := v3) (by omega) (Nat.le_refl _))
  have f4 := (f3.tr x4.l).pa (c0 := 82) (k := D.1 1) (x := v3) (Or.inr (by omega))
  have z4 : mRd B n (pu I4 82 (D.1 1) v3) J4 (tn3 B n p D) := z4.fr (fun k hk => by rw [pu_ne _ _ _ (by decide)])
  refine pE_iastoreN dX12_readTenant_58 (by first | assumption | rfl) (by first | assumption | omega) (by omega) ?_
  refine pE_aload_n dX12_readTenant_59 rfl rfl ?_
  refine pE_getR dX12_readTenant_60 flX12_61 rfl (by first | assumption | rfl) (by first | assumption | rfl) ?_
  refine pE_iload_n dX12_readTenant_63 rfl rfl ?_
  refine pE_aload_n dX12_readTenant_64 rfl rfl ?_
  refine pE_ldc2 dX12_readTenant_65 kcX12_197 ?_
  rw [show (1870095731 : Int64) = mwJ (kwL 8) from mwk.2.2.2.2.2.2.1.symm]
  refine pE_iconst (v := nI 0) dX12_readTenant_68 rfl ?_
  refine pE_sipush (v := nI 999) dX12_readTenant_69 rfl ?_
  refine pE_callV (d' := 4) (as := [_, _, _]) dX12_readTenant_72 lkX12_241 (cwX12_told _ _) ivX12_told ⟨_, rfl, rfl⟩ (by first | assumption | rfl) rfl rfl (Nat.le_of_ble_eq_true rfl) (by decide) pKK ?_
  refine M_X12_told hT4 z4 (show 8 ∈ ownI by decide) (lo := 0) (hi := 999) (by omega) (by omega) (fun I5 J5 v4 x5 y5 z5 w5 => ?_)
  have z5 : mRd B n I5 J5 (tn4 B n p D) := z5
  have hT5 : tpM (pu I5 83 (D.1 1) v4) n B := (hT4.r x5).fr (by rw [pu_ne _ _ _ (by decide)]) (fun i => by rw [pu_ne _ _ _ (by decide)])
  have H5 := ((H4.r x5).st (c := 83) (t := D.1 1) (x := v4) (by omega) (Nat.le_refl _))
  have f5 := (f4.tr x5.l).pa (c0 := 83) (k := D.1 1) (x := v4) (Or.inr (by omega))
  have z5 : mRd B n (pu I5 83 (D.1 1) v4) J5 (tn4 B n p D) := z5.fr (fun k hk => by rw [pu_ne _ _ _ (by decide)])
  refine pE_iastoreN dX12_readTenant_75 (by first | assumption | rfl) (by first | assumption | omega) (by omega) ?_
  refine pE_aload_n dX12_readTenant_76 rfl rfl ?_
  refine pE_getR dX12_readTenant_77 flX12_64 rfl (by first | assumption | rfl) (by first | assumption | rfl) ?_
  refine pE_iload_n dX12_readTenant_80 rfl rfl ?_
  refine pE_aload_n dX12_readTenant_81 rfl rfl ?_
  refine pE_ldc2 dX12_readTenant_82 kcX12_199 ?_
  rw [show (439720963187 : Int64) = mwJ (kwL 9) from mwk.2.2.2.2.2.2.2.1.symm]
  refine pE_bipush (v := nI 100) dX12_readTenant_85 rfl ?_
  refine pE_callV (d' := 5) (as := [_, _]) dX12_readTenant_87 lkX12_315 (cwX12_option _ _) ivX12_option ⟨_, rfl, rfl⟩ (by first | assumption | rfl) rfl rfl (Nat.le_of_ble_eq_true rfl) (by decide) pKK ?_
  refine M_X12_optionX hT5 z5 (show 9 ∈ ownI by decide) (hi := 100) (by omega) (fun _ _ => rfl) (fun I6 J6 v5 x6 y6 z6 w6 => ?_)
  have z6 : mRd B n I6 J6 (tn5 B n p D) := z6
  have f6 := (f5.tr x6.l).pa (c0 := 84) (k := D.1 1) (x := v5) (Or.inr (by omega))
  have H6 := ((H5.r x6).st (c := 84) (t := D.1 1) (x := v5) (by omega) (Nat.le_refl _))
  refine pE_iastoreN dX12_readTenant_90 (by first | assumption | rfl) (by first | assumption | omega) (by omega) ?_
  have z7 : mRd B n (pu I6 84 (D.1 1) v5) J6 (tn5 B n p D) := z6.fr (fun k hk => by rw [pu_ne _ _ _ (by decide)])
  rcases z7 with ⟨e, e1, e2⟩ | ⟨p6, e1, e2⟩
  · have h14 := e2.2.1
    refine pE_aload_n dX12_readTenant_91 rfl rfl ?_
    refine pE_getI dX12_readTenant_92 flX12_182 rfl (Or.inl rfl) (by first | assumption | rfl) ?_
    rw [e2.1]
    refine pE_if_ne (tgt := 108) dX12_readTenant_95 (by decide) (fun h95 => ?_) (fun h95 => ?_)
    · have g95 := nq_ne0 (by omega) h95
      refine pE_vret dX12_readTenant_108 rfl rfl ?_
      exact hq _ J6 f6 (y1.tr (y2.n.tr (y3.n.tr (y4.n.tr (y5.n.tr y6.n))))) (by rw [show (tnL B n p D).1 = .inl e from e1]; exact e2.rd) (fun q h => by rw [show (tnL B n p D).1 = .inl e from e1] at h; cases h)
    · have g95 := nq_eq0 (by omega) h95
      omega
  · refine pE_aload_n dX12_readTenant_91 rfl rfl ?_
    refine pE_getI dX12_readTenant_92 flX12_182 rfl (Or.inl rfl) (by first | assumption | rfl) ?_
    rw [e2.1]
    refine pE_if_ne (tgt := 108) dX12_readTenant_95 (by decide) (fun h95 => ?_) (fun h95 => ?_)
    · have g95 := nq_ne0 (by omega) h95
      omega
    · have g95 := nq_eq0 (by omega) h95
      refine pE_aload_n dX12_readTenant_98 rfl rfl ?_
      refine pE_dupR dX12_readTenant_99 ?_
      refine pE_getI dX12_readTenant_100 flX12_248 rfl (Or.inl rfl) (by first | assumption | rfl) ?_
      rw [H6.2.2.1]
      refine pE_iconst (v := nI 1) dX12_readTenant_103 rfl ?_
      refine pE_iaddN dX12_readTenant_104 ?_
      refine pE_putI dX12_readTenant_105 flX12_248 ftX12 fiX12_39 rfl rfl (by first | assumption | rfl) ?_
      refine pE_vret dX12_readTenant_108 rfl rfl ?_
      have hv : ∀ q, tn5 B n p D = .inr q → v5 = nI (opV B n 9 (tn4 B n p D)) ∧ v4 = nI (fvN B n 8 (tn3 B n p D)) ∧ v3 = nI (fvN B n 7 (tn2 B n p D)) ∧ v2 = nI (fvN B n 6 (tn1 B n p D)) ∧ v1 = nI (fvN B n 5 (tn0 B n p D)) ∧ ∃ q0, tn0 B n p D = .inr q0 := fun q hh => by
        have q4 := (opN_v hh).2.choose_spec
        have q3 := (fdN_v q4).2.choose_spec
        have q2 := (fdN_v q3).2.choose_spec
        have q1 := (fdN_v q2).2.choose_spec
        have q0 := (fdN_v q1).2.choose_spec
        exact ⟨w6 q hh, w5 _ q4, w4 _ q3, w3 _ q2, w2 _ q1, _, q0⟩
      refine hq _ J6 (f6.ps (by omega)) (y1.tr (y2.n.tr (y3.n.tr (y4.n.tr (y5.n.tr y6.n))))) ?_ (fun q hh => ?_)
      · exact Or.inr ⟨p6, e1, e2.fr (fun k hk => by rw [pu_at, if_neg (by omega)])⟩
      · obtain ⟨g5, g4, g3, g2, g1, q0, hq0⟩ := hv q hh
        obtain ⟨a, b, c, d, e, f, g0⟩ := hD
        have hfr : ∀ c k, ¬ (c = 67 ∧ (k = 39 ∨ k = 2 ∨ k = 3 ∨ k = 4 ∨ (6 ≤ k ∧ k ≤ 8))) → ¬ (80 ≤ c ∧ c ≤ 84) → pu (pu I6 84 (D.1 1) v5) 67 39 (nI (D.1 1 + 1)) c k = I c k := fun c k z1 z2 => by
          rw [pu_at, if_neg (by omega), pu_at, if_neg (by omega), x6 c k (by omega), pu_at, if_neg (by omega), x5 c k (by omega), pu_at, if_neg (by omega), x4 c k (by omega), pu_at, if_neg (by omega), x3 c k (by omega), pu_at, if_neg (by omega), x2 c k (by omega), x1 c k (by omega)]
        refine ⟨?_, (hfr _ _ (by omega) (by omega)).trans b, (hfr _ _ (by omega) (by omega)).trans c, (hfr _ _ (by omega) (by omega)).trans d, ((((((n1 _ hq0).m y2).m y3).m y4).m y5).m y6), fun w hw => (f w hw).fr (hfr _ _ (by omega) (by omega)) (fun i _ => ⟨hfr _ _ (by omega) (by omega), hfr _ _ (by omega) (by omega)⟩), fun w hw => (g0 w hw).fr (hfr _ _ (by omega) (by omega)) (fun i _ => ⟨hfr _ _ (by omega) (by omega), hfr _ _ (by omega) (by omega)⟩)⟩
        have u : ∀ m, m ≠ 1 → m ≠ 8 + D.1 1 → m ≠ 16 + D.1 1 → m ≠ 24 + D.1 1 → m ≠ 32 + D.1 1 → m ≠ 40 + D.1 1 → tnH B n p D m = D.1 m := fun m s1 s2 s3 s4 s5 s6 => by
          unfold tnH
          rw [upN_n s1, upN_n s6, upN_n s5, upN_n s4, upN_n s3, upN_n s2]
        have w1 : tnH B n p D 1 = D.1 1 + 1 := upN_e
        have w8 : tnH B n p D (8 + D.1 1) = fvN B n 5 (tn0 B n p D) := by unfold tnH; rw [upN_n (by omega), upN_n (by omega), upN_n (by omega), upN_n (by omega), upN_n (by omega), upN_e]
        have w16 : tnH B n p D (16 + D.1 1) = fvN B n 6 (tn1 B n p D) := by unfold tnH; rw [upN_n (by omega), upN_n (by omega), upN_n (by omega), upN_n (by omega), upN_e]
        have w24 : tnH B n p D (24 + D.1 1) = fvN B n 7 (tn2 B n p D) := by unfold tnH; rw [upN_n (by omega), upN_n (by omega), upN_n (by omega), upN_e]
        have w32 : tnH B n p D (32 + D.1 1) = fvN B n 8 (tn3 B n p D) := by unfold tnH; rw [upN_n (by omega), upN_n (by omega), upN_e]
        have w40 : tnH B n p D (40 + D.1 1) = opV B n 9 (tn4 B n p D) := by unfold tnH; rw [upN_n (by omega), upN_e]
        obtain ⟨a1, a2, a3, a4, a5, a6⟩ := H6
        show mHn (tnH B n p D) _
        refine ⟨?_, ?_, ?_, ?_, ?_, fun j hj => ?_⟩
        · rw [u 0 (by omega) (by omega) (by omega) (by omega) (by omega) (by omega), pu_at, if_neg (by omega)]; exact a1
        · rw [u 2 (by omega) (by omega) (by omega) (by omega) (by omega) (by omega), pu_at, if_neg (by omega)]; exact a2
        · rw [w1, pu_at, if_pos ⟨rfl, rfl⟩]
        · rw [u 3 (by omega) (by omega) (by omega) (by omega) (by omega) (by omega), pu_at, if_neg (by omega)]; exact a4
        · rw [u 4 (by omega) (by omega) (by omega) (by omega) (by omega) (by omega), pu_at, if_neg (by omega)]; exact a5
        · rw [w1] at hj
          rw [pu_ne _ 39 _ (show (80 : Nat) ≠ 67 by decide), pu_ne _ 39 _ (show (81 : Nat) ≠ 67 by decide), pu_ne _ 39 _ (show (82 : Nat) ≠ 67 by decide), pu_ne _ 39 _ (show (83 : Nat) ≠ 67 by decide), pu_ne _ 39 _ (show (84 : Nat) ≠ 67 by decide)]
          by_cases c0 : j = D.1 1
          · rw [c0, w8, w16, w24, w32, w40]
            refine ⟨?_, ?_, ?_, ?_, ?_⟩
            · rw [pu_at, if_neg (by omega), x6 _ _ (by omega), pu_at, if_neg (by omega), x5 _ _ (by omega), pu_at, if_neg (by omega), x4 _ _ (by omega), pu_at, if_neg (by omega), x3 _ _ (by omega), pu_at, if_pos ⟨rfl, rfl⟩]; exact g1
            · rw [pu_at, if_neg (by omega), x6 _ _ (by omega), pu_at, if_neg (by omega), x5 _ _ (by omega), pu_at, if_neg (by omega), x4 _ _ (by omega), pu_at, if_pos ⟨rfl, rfl⟩]; exact g2
            · rw [pu_at, if_neg (by omega), x6 _ _ (by omega), pu_at, if_neg (by omega), x5 _ _ (by omega), pu_at, if_pos ⟨rfl, rfl⟩]; exact g3
            · rw [pu_at, if_neg (by omega), x6 _ _ (by omega), pu_at, if_pos ⟨rfl, rfl⟩]; exact g4
            · rw [pu_at, if_pos ⟨rfl, rfl⟩]; exact g5
          · rw [u (8 + j) (by omega) (by omega) (by omega) (by omega) (by omega) (by omega), u (16 + j) (by omega) (by omega) (by omega) (by omega) (by omega) (by omega), u (24 + j) (by omega) (by omega) (by omega) (by omega) (by omega) (by omega), u (32 + j) (by omega) (by omega) (by omega) (by omega) (by omega) (by omega), u (40 + j) (by omega) (by omega) (by omega) (by omega) (by omega) (by omega)]
            exact a6 j (by omega)
